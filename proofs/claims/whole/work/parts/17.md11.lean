def mCntC (nb : Nat) (bg wt : Int32) : Int32 := if mIn bg 0 (nI nb - 1) = 0 then 1 else if 0 ≤ wt then 0 else 2
def mCntV (σ : Nat → Nat → Int32) (b K : Nat) (wt : Int32) : Int32 := if mWithin wt (mS1 σ 32 b K) (mS1 σ 33 b K) = 0 then 0 else if mUns σ wt (mS1 σ 32 b K) (mS1 σ 33 b K) b K = 0 then 1 else 2
def mCntR (σ : Nat → Nat → Int32) (nb : Nat) (kc : Nat → Nat) (bg wt : Int32) : Int32 := if mCntC nb bg wt = 0 then mCntV σ bg.toNatClampNeg (kc bg.toNatClampNeg) wt else 0
theorem mSets_fix (σ : Nat → Nat → Int32) (rho : Nat → Nat) {i : Nat} (h : i ≠ 28) : ∀ q, (mSets σ rho q).1 i = σ i
  | 0 => mZero_fix σ h 8
  | q + 1 => (gSt_ne _ _ _ _ h).trans (mSets_fix σ rho h q)
def mBoxU (σ : Nat → Nat → Int32) (rho ord sx cx : Nat → Nat) (np b : Nat) : Nat → Nat → Int32 := (mPk (mSets σ rho np).1 ord (nI (sx b)) (cx b) np).1
theorem mBoxU_fix (σ : Nat → Nat → Int32) (rho ord sx cx : Nat → Nat) (np b : Nat) {i : Nat} (h : i < 15 ∨ 22 < i) (h2 : i ≠ 28) : mBoxU σ rho ord sx cx np b i = σ i := (mPk_fix _ _ _ _ h _).trans (mSets_fix σ rho h2 np)

theorem gg_Md_167 (w0 : Cond) : GoodIn (w0 :: gBig) (wsS R_Md 167 y_Md_isWithin (.code y_Md_isWithin b_Md_isWithin 3 (some .boolean) :: gBig)) := gGoodS (gIn k_877 (by decide +kernel)) (gIn k_878 (by decide +kernel)) (gIn k_9 (by decide +kernel)) (gIn k_879 (by decide +kernel))
theorem gg_Md_144 (w0 : Cond) : GoodIn (w0 :: gBig) (wsV R_Md 144 R_Md y_Md_setsOf (.code y_Md_setsOf b_Md_setsOf 4 (some .int) :: gBig)) := gGoodV (gIn k_825 (by decide +kernel)) (gIn k_827 (by decide +kernel)) (gInP (List.mem_of_getElem? (i := 22) (by decide +kernel)) (by decide +kernel)) (gIn k_9 (by decide +kernel)) (gIn k_828 (by decide +kernel))
set_option maxHeartbeats 4000000 in
set_option maxRecDepth 100000 in
theorem c_Md_counted (l : Launch) (D : va_G) (t : Nat → ClassId) (a : Nat → Nat) (σ : Nat → Nat → Int32) (bg wt : Int32) (nb : Nat) (kc : Nat → Nat) (hB : σ 29 0 = nI nb) (hB4 : nb ≤ 4) (hkc : ∀ b, b < nb → σ 30 b = nI (kc b) ∧ kc b ≤ 6) : gMi l D t y_Md_counted b_Md_counted 7 (some .int) 1 [.ref (a 0), .int bg, .int wt] (wMd t a σ) (wMd t a) (fun r u => r = mCntR σ nb kc bg wt ∧ u = gSt σ 0 0 (mCntC nb bg wt)) := by
  intro A
  refine Met.ofW (cc := b_Md_counted) (maxL := 7) (ret := (some .int)) (by decide) rfl ?_
  intro p e s m args below meth c s₁ B hml hv
  obtain ⟨rfl, hK, hP, hD⟩ := hv
  have hx := B.exec
  have hb := B.bytes
  have hr := B.returns
  have hts := atoms_spec (ws := .code y_Md_counted b_Md_counted 7 (some .int) :: gBig) B.pre
  have hown : s.vm.findClass R_Md = some m.cls := findClass_of_methodNamed B.named
  have hlocks := B.notSynchronized
  have hS : va_S A s.heap s.heap [] := va_S.rf
  have hl := lv_entry ([.ref (a 0), .int bg, .int wt]) (n := 7) (Nat.le_of_ble_eq_true rfl)
  rw [lg_entry_eq]
  generalize (lg_sl ([.ref (a 0), .int bg, .int wt]) ++ List.replicate (7 - (lg_sl ([.ref (a 0), .int bg, .int wt])).length) Slot.unset).toArray = ls at hl ⊢
  have hl : lv_has ls 7 [(0, .ref (a 0)), (1, .int bg), (2, .int wt)] := hl
  show gGo l p e s m below meth c D t A 1 [.ref (a 0), .int bg, .int wt] (wMd t a) (fun r u => r = mCntR σ nb kc bg wt ∧ u = gSt σ 0 0 (mCntC nb bg wt)) s.heap [] (F0 m 0 ls [])
  have cut_132 : ∀ (n : Nat) (b : Nat) (j : Nat) (sm : Int32) (sr : Int32) (un : Int32) (H : Heap) (locs : List Loc) (ls : Array Slot), (b < nb) → (j ≤ kc b) → (kc b ≤ 6) → (kc b + 1 ≤ j + n) → (un = mUns σ wt sm sr b j) → (bg = nI b) → (mCntC nb bg wt = 0) → (sm = mS1 σ 32 b (kc b)) → (sr = mS1 σ 33 b (kc b)) → (¬ mWithin wt sm sr = 0) → va_P D gCl (wMd t a (gSt σ 0 0 0)) H → va_D A (wMd t a (gSt σ 0 0 0)) → va_S A s.heap H locs → lv_has ls 7 [(0, .ref (a 0)), (1, .int (nI b)), (2, .int wt), (3, .int sm), (4, .int sr), (5, .int un), (6, .int (nI (6 * b + j)))] → gGo l p e s m below meth c D t A 1 [.ref (a 0), .int bg, .int wt] (wMd t a) (fun r u => r = mCntR σ nb kc bg wt ∧ u = gSt σ 0 0 (mCntC nb bg wt)) H locs (F0 m 132 ls []) := by
    intro n
    induction n with
    | zero =>
      intro b j sm sr un H locs ls hbn hj hk6 hf hun hbg hcd hs1 hs2 hw hP hD hS hl
      exact absurd hf (by omega)
    | succ n ih =>
      intro b j sm sr un H locs ls hbn hj hk6 hf hun hbg hcd hs1 hs2 hw hP hD hS hl
      refine lv_iload hx hb d_Md_counted_132 (lv_at hl 6 rfl) ?_
      refine lv_bipush (v := 6) hx hb d_Md_counted_134 (by decide) ?_
      refine lv_iload_n hx hb d_Md_counted_136 rfl (lv_at hl 1 rfl) ?_
      refine lv_imul hx hb d_Md_counted_137 ?_
      refine lv_topi (fun v_1 e_1 => ?_)
      obtain rfl : nI (6 * b) = v_1 := (e_1.trans (gMul6 b)).symm
      refine lv_aload_n hx hb d_Md_counted_138 rfl (lv_at hl 0 rfl) ?_
      refine va_get (D := D) (ci := 7) (v := .ref (a 30)) (C := R_Md) (T := F_Md) (N := 34) hx hb hts (fun w h => List.mem_cons_of_mem _ (i_Md w h)) hown hK.1 hP 0 (wMd_0 t a (gSt σ 0 0 0)) rfl 30 (by decide) (hts (.fieldLink R_Md 77 "FlatBoxesModel" "kindCounts" "[I") (List.mem_cons_of_mem _ (gIn k_696 (by decide +kernel)))) (fun _ h9 => h9) rfl d_Md_counted_139 ?_
      refine lv_iload_n hx hb d_Md_counted_142 rfl (lv_at hl 1 rfl) ?_
      refine g_iald hx hb hK.1 hP 23 0 (wMd_30 t a (gSt σ 0 0 0)) rfl b (rfl) (by omega) (by decide) d_Md_counted_143 ?_
      refine lv_topi (fun v_2 e_2 => ?_)
      obtain rfl : nI (kc b) = v_2 := (e_2.trans ((hkc b (by omega)).1)).symm
      refine lv_iadd hx hb d_Md_counted_144 ?_
      refine lv_topi (fun v_3 e_3 => ?_)
      obtain rfl : nI (6 * b + kc b) = v_3 := (e_3.trans (nI_add _ _)).symm
      refine lv_icmp_ge (tgt := 228) hx hb d_Md_counted_145 (by decide) (fun c_4 => ?_) (fun c_4 => ?_)
      · 
        have h_4 : 6 * b + kc b ≤ 6 * b + j := (nI_leI (a := 6 * b + kc b) (b := 6 * b + j) (by omega) (by omega)).mp c_4
        refine lv_iload hx hb d_Md_counted_228 (lv_at hl 5 rfl) ?_
        refine lv_if_eq (tgt := 237) hx hb d_Md_counted_230 (by decide) (fun c_5 => ?_) (fun c_5 => ?_)
        · 
          refine lv_iconst (v := 1) hx hb d_Md_counted_237 (by decide) ?_
          exact W.iret (v := 1) hx hb hr (fun U hU hW => ⟨⟨1, gSt σ 0 0 0, rfl, by obtain rfl : j = kc b := (by omega); subst hun hs1 hs2; exact ⟨by rw [mCntR, if_pos hcd, hbg, nI_clamp (by omega), mCntV, if_neg hw, if_pos (by assumption)], by rw [hcd]⟩, by rw [hU]; exact hP, hD⟩, hS.F hU⟩) hS.2.2 d_Md_counted_238
        · 
          refine lv_iconst (v := 2) hx hb d_Md_counted_233 (by decide) ?_
          refine lv_goto (tgt := 238) hx hb d_Md_counted_234 (by decide) ?_
          exact W.iret (v := 2) hx hb hr (fun U hU hW => ⟨⟨2, gSt σ 0 0 0, rfl, by obtain rfl : j = kc b := (by omega); subst hun hs1 hs2; exact ⟨by rw [mCntR, if_pos hcd, hbg, nI_clamp (by omega), mCntV, if_neg hw, if_neg (by assumption)], by rw [hcd]⟩, by rw [hU]; exact hP, hD⟩, hS.F hU⟩) hS.2.2 d_Md_counted_238
      · 
        have h_4 : ¬ 6 * b + kc b ≤ 6 * b + j := fun q9 => c_4 ((nI_leI (a := 6 * b + kc b) (b := 6 * b + j) (by omega) (by omega)).mpr q9)
        refine lv_iload hx hb d_Md_counted_148 (lv_at hl 5 rfl) ?_
        refine lv_if_ne (tgt := 215) hx hb d_Md_counted_150 (by decide) (fun c_6 => ?_) (fun c_6 => ?_)
        · 
          refine lv_iconst (v := 1) hx hb d_Md_counted_215 (by decide) ?_
          refine lv_goto (tgt := 220) hx hb d_Md_counted_216 (by decide) ?_
          refine lv_istore (lv' := [(5, .int 1), (0, .ref (a 0)), (1, .int (nI b)), (2, .int wt), (3, .int sm), (4, .int sr), (6, .int (nI (6 * b + j)))]) hx hb d_Md_counted_220 hl (by decide) rfl (fun ls hl => ?_)
          refine lv_iinc (v := nI (6 * b + j + 1)) (lv' := [(6, .int (nI (6 * b + j + 1))), (5, .int 1), (0, .ref (a 0)), (1, .int (nI b)), (2, .int wt), (3, .int sm), (4, .int sr)]) hx hb d_Md_counted_222 hl (k := 6) rfl (nI_1 (6 * b + j)) (by decide) rfl (fun ls hl => ?_)
          refine lv_goto (tgt := 132) hx hb d_Md_counted_225 (by decide) ?_
          exact ih b (j + 1) sm sr 1 _ _ _ (by omega) (by omega) (by omega) (by omega) (by first | (subst hun; simp [mUns, c_4, h_4, c_6]; done) | (subst hun; simp [mUns, c_4, h_4, c_6]; exact gb1 (mWithin01 _ _ _) (by assumption))) (hbg) (hcd) (hs1) (hs2) (hw) hP hD hS (lv_sub hl [2, 3, 4, 5, 6, 1, 0] rfl)
        · 
          refine lv_aload_n hx hb d_Md_counted_153 rfl (lv_at hl 0 rfl) ?_
          refine va_get (D := D) (ci := 7) (v := .ref (a 31)) (C := R_Md) (T := F_Md) (N := 34) hx hb hts (fun w h => List.mem_cons_of_mem _ (i_Md w h)) hown hK.1 hP 0 (wMd_0 t a (gSt σ 0 0 0)) rfl 31 (by decide) (hts (.fieldLink R_Md 80 "FlatBoxesModel" "manies" "[I") (List.mem_cons_of_mem _ (gIn k_697 (by decide +kernel)))) (fun _ h9 => h9) rfl d_Md_counted_154 ?_
          refine lv_iload hx hb d_Md_counted_157 (lv_at hl 6 rfl) ?_
          refine g_iald hx hb hK.1 hP 24 0 (wMd_31 t a (gSt σ 0 0 0)) rfl (6 * b + j) (rfl) (by omega) (by decide) d_Md_counted_159 ?_
          refine lv_topi (fun v_7 e_7 => ?_)
          obtain rfl : σ 31 (6 * b + j) = v_7 := (e_7.trans (rfl)).symm
          refine lv_if_le (tgt := 189) hx hb d_Md_counted_160 (by decide) (fun c_8 => ?_) (fun c_8 => ?_)
          · 
            refine lv_iload_n hx hb d_Md_counted_189 rfl (lv_at hl 2 rfl) ?_
            refine lv_iload_n hx hb d_Md_counted_190 rfl (lv_at hl 3 rfl) ?_
            refine lv_aload_n hx hb d_Md_counted_191 rfl (lv_at hl 0 rfl) ?_
            refine va_get (D := D) (ci := 7) (v := .ref (a 32)) (C := R_Md) (T := F_Md) (N := 34) hx hb hts (fun w h => List.mem_cons_of_mem _ (i_Md w h)) hown hK.1 hP 0 (wMd_0 t a (gSt σ 0 0 0)) rfl 32 (by decide) (hts (.fieldLink R_Md 83 "FlatBoxesModel" "eaches" "[I") (List.mem_cons_of_mem _ (gIn k_698 (by decide +kernel)))) (fun _ h9 => h9) rfl d_Md_counted_192 ?_
            refine lv_iload hx hb d_Md_counted_195 (lv_at hl 6 rfl) ?_
            refine g_iald hx hb hK.1 hP 25 0 (wMd_32 t a (gSt σ 0 0 0)) rfl (6 * b + j) (rfl) (by omega) (by decide) d_Md_counted_197 ?_
            refine lv_topi (fun v_9 e_9 => ?_)
            obtain rfl : σ 32 (6 * b + j) = v_9 := (e_9.trans (rfl)).symm
            refine lv_iadd hx hb d_Md_counted_198 ?_
            refine lv_iload hx hb d_Md_counted_199 (lv_at hl 4 rfl) ?_
            refine lv_aload_n hx hb d_Md_counted_201 rfl (lv_at hl 0 rfl) ?_
            refine va_get (D := D) (ci := 7) (v := .ref (a 33)) (C := R_Md) (T := F_Md) (N := 34) hx hb hts (fun w h => List.mem_cons_of_mem _ (i_Md w h)) hown hK.1 hP 0 (wMd_0 t a (gSt σ 0 0 0)) rfl 33 (by decide) (hts (.fieldLink R_Md 86 "FlatBoxesModel" "spreads" "[I") (List.mem_cons_of_mem _ (gIn k_699 (by decide +kernel)))) (fun _ h9 => h9) rfl d_Md_counted_202 ?_
            refine lv_iload hx hb d_Md_counted_205 (lv_at hl 6 rfl) ?_
            refine g_iald hx hb hK.1 hP 26 0 (wMd_33 t a (gSt σ 0 0 0)) rfl (6 * b + j) (rfl) (by omega) (by decide) d_Md_counted_207 ?_
            refine lv_topi (fun v_10 e_10 => ?_)
            obtain rfl : σ 33 (6 * b + j) = v_10 := (e_10.trans (rfl)).symm
            refine lv_iadd hx hb d_Md_counted_208 ?_
            refine g_si (k := 3) (As := [.int wt, .int (sm + (σ 32 (6 * b + j))), .int (sr + (σ 33 (6 * b + j)))]) (rest := []) (own := R_Md) (index := 167) ⟨hx, hb, hml, hown, hts⟩ (c_Md_isWithin l D t a (gSt σ 0 0 0) wt (sm + (σ 32 (6 * b + j))) (sr + (σ 33 (6 * b + j)))) (gg_Md_167 _) (by decide +kernel) ⟨Nat.le_of_ble_eq_true rfl, Nat.le_of_ble_eq_true rfl⟩ rfl hK hP hD hS hl.1 rfl (Nat.le_of_ble_eq_true rfl) ⟨Nat.zero_le _, Nat.zero_le _⟩ d_Md_counted_209 (fun r_11 u_11 H locs q_11 hP hD hS => ?_)
            obtain ⟨rfl, hu_11⟩ := q_11
            rw [hu_11] at hP hD
            refine lv_if_eq (tgt := 219) hx hb d_Md_counted_212 (by decide) (fun c_12 => ?_) (fun c_12 => ?_)
            · 
              refine lv_iconst (v := 0) hx hb d_Md_counted_219 (by decide) ?_
              refine lv_istore (lv' := [(5, .int 0), (0, .ref (a 0)), (1, .int (nI b)), (2, .int wt), (3, .int sm), (4, .int sr), (6, .int (nI (6 * b + j)))]) hx hb d_Md_counted_220 hl (by decide) rfl (fun ls hl => ?_)
              refine lv_iinc (v := nI (6 * b + j + 1)) (lv' := [(6, .int (nI (6 * b + j + 1))), (5, .int 0), (0, .ref (a 0)), (1, .int (nI b)), (2, .int wt), (3, .int sm), (4, .int sr)]) hx hb d_Md_counted_222 hl (k := 6) rfl (nI_1 (6 * b + j)) (by decide) rfl (fun ls hl => ?_)
              refine lv_goto (tgt := 132) hx hb d_Md_counted_225 (by decide) ?_
              exact ih b (j + 1) sm sr 0 _ _ _ (by omega) (by omega) (by omega) (by omega) (by first | (subst hun; simp [mUns, c_4, h_4, c_6, c_8, c_12]; done) | (subst hun; simp [mUns, c_4, h_4, c_6, c_8, c_12]; exact gb1 (mWithin01 _ _ _) (by assumption))) (hbg) (hcd) (hs1) (hs2) (hw) hP hD hS (lv_sub hl [2, 3, 4, 5, 6, 1, 0] rfl)
            · 
              refine lv_iconst (v := 1) hx hb d_Md_counted_215 (by decide) ?_
              refine lv_goto (tgt := 220) hx hb d_Md_counted_216 (by decide) ?_
              refine lv_istore (lv' := [(5, .int 1), (0, .ref (a 0)), (1, .int (nI b)), (2, .int wt), (3, .int sm), (4, .int sr), (6, .int (nI (6 * b + j)))]) hx hb d_Md_counted_220 hl (by decide) rfl (fun ls hl => ?_)
              refine lv_iinc (v := nI (6 * b + j + 1)) (lv' := [(6, .int (nI (6 * b + j + 1))), (5, .int 1), (0, .ref (a 0)), (1, .int (nI b)), (2, .int wt), (3, .int sm), (4, .int sr)]) hx hb d_Md_counted_222 hl (k := 6) rfl (nI_1 (6 * b + j)) (by decide) rfl (fun ls hl => ?_)
              refine lv_goto (tgt := 132) hx hb d_Md_counted_225 (by decide) ?_
              exact ih b (j + 1) sm sr 1 _ _ _ (by omega) (by omega) (by omega) (by omega) (by first | (subst hun; simp [mUns, c_4, h_4, c_6, c_8, c_12]; done) | (subst hun; simp [mUns, c_4, h_4, c_6, c_8, c_12]; exact gb1 (mWithin01 _ _ _) (by assumption))) (hbg) (hcd) (hs1) (hs2) (hw) hP hD hS (lv_sub hl [2, 3, 4, 5, 6, 1, 0] rfl)
          · 
            refine lv_iload_n hx hb d_Md_counted_163 rfl (lv_at hl 2 rfl) ?_
            refine lv_iload_n hx hb d_Md_counted_164 rfl (lv_at hl 3 rfl) ?_
            refine lv_aload_n hx hb d_Md_counted_165 rfl (lv_at hl 0 rfl) ?_
            refine va_get (D := D) (ci := 7) (v := .ref (a 32)) (C := R_Md) (T := F_Md) (N := 34) hx hb hts (fun w h => List.mem_cons_of_mem _ (i_Md w h)) hown hK.1 hP 0 (wMd_0 t a (gSt σ 0 0 0)) rfl 32 (by decide) (hts (.fieldLink R_Md 83 "FlatBoxesModel" "eaches" "[I") (List.mem_cons_of_mem _ (gIn k_698 (by decide +kernel)))) (fun _ h9 => h9) rfl d_Md_counted_166 ?_
            refine lv_iload hx hb d_Md_counted_169 (lv_at hl 6 rfl) ?_
            refine g_iald hx hb hK.1 hP 25 0 (wMd_32 t a (gSt σ 0 0 0)) rfl (6 * b + j) (rfl) (by omega) (by decide) d_Md_counted_171 ?_
            refine lv_topi (fun v_13 e_13 => ?_)
            obtain rfl : σ 32 (6 * b + j) = v_13 := (e_13.trans (rfl)).symm
            refine lv_isub hx hb d_Md_counted_172 ?_
            refine lv_iload hx hb d_Md_counted_173 (lv_at hl 4 rfl) ?_
            refine lv_aload_n hx hb d_Md_counted_175 rfl (lv_at hl 0 rfl) ?_
            refine va_get (D := D) (ci := 7) (v := .ref (a 33)) (C := R_Md) (T := F_Md) (N := 34) hx hb hts (fun w h => List.mem_cons_of_mem _ (i_Md w h)) hown hK.1 hP 0 (wMd_0 t a (gSt σ 0 0 0)) rfl 33 (by decide) (hts (.fieldLink R_Md 86 "FlatBoxesModel" "spreads" "[I") (List.mem_cons_of_mem _ (gIn k_699 (by decide +kernel)))) (fun _ h9 => h9) rfl d_Md_counted_176 ?_
            refine lv_iload hx hb d_Md_counted_179 (lv_at hl 6 rfl) ?_
            refine g_iald hx hb hK.1 hP 26 0 (wMd_33 t a (gSt σ 0 0 0)) rfl (6 * b + j) (rfl) (by omega) (by decide) d_Md_counted_181 ?_
            refine lv_topi (fun v_14 e_14 => ?_)
            obtain rfl : σ 33 (6 * b + j) = v_14 := (e_14.trans (rfl)).symm
            refine lv_isub hx hb d_Md_counted_182 ?_
            refine g_si (k := 3) (As := [.int wt, .int (sm - (σ 32 (6 * b + j))), .int (sr - (σ 33 (6 * b + j)))]) (rest := []) (own := R_Md) (index := 167) ⟨hx, hb, hml, hown, hts⟩ (c_Md_isWithin l D t a (gSt σ 0 0 0) wt (sm - (σ 32 (6 * b + j))) (sr - (σ 33 (6 * b + j)))) (gg_Md_167 _) (by decide +kernel) ⟨Nat.le_of_ble_eq_true rfl, Nat.le_of_ble_eq_true rfl⟩ rfl hK hP hD hS hl.1 rfl (Nat.le_of_ble_eq_true rfl) ⟨Nat.zero_le _, Nat.zero_le _⟩ d_Md_counted_183 (fun r_15 u_15 H locs q_15 hP hD hS => ?_)
            obtain ⟨rfl, hu_15⟩ := q_15
            rw [hu_15] at hP hD
            refine lv_if_ne (tgt := 215) hx hb d_Md_counted_186 (by decide) (fun c_16 => ?_) (fun c_16 => ?_)
            · 
              refine lv_iconst (v := 1) hx hb d_Md_counted_215 (by decide) ?_
              refine lv_goto (tgt := 220) hx hb d_Md_counted_216 (by decide) ?_
              refine lv_istore (lv' := [(5, .int 1), (0, .ref (a 0)), (1, .int (nI b)), (2, .int wt), (3, .int sm), (4, .int sr), (6, .int (nI (6 * b + j)))]) hx hb d_Md_counted_220 hl (by decide) rfl (fun ls hl => ?_)
              refine lv_iinc (v := nI (6 * b + j + 1)) (lv' := [(6, .int (nI (6 * b + j + 1))), (5, .int 1), (0, .ref (a 0)), (1, .int (nI b)), (2, .int wt), (3, .int sm), (4, .int sr)]) hx hb d_Md_counted_222 hl (k := 6) rfl (nI_1 (6 * b + j)) (by decide) rfl (fun ls hl => ?_)
              refine lv_goto (tgt := 132) hx hb d_Md_counted_225 (by decide) ?_
              exact ih b (j + 1) sm sr 1 _ _ _ (by omega) (by omega) (by omega) (by omega) (by first | (subst hun; simp [mUns, c_4, h_4, c_6, c_8, c_16]; done) | (subst hun; simp [mUns, c_4, h_4, c_6, c_8, c_16]; exact gb1 (mWithin01 _ _ _) (by assumption))) (hbg) (hcd) (hs1) (hs2) (hw) hP hD hS (lv_sub hl [2, 3, 4, 5, 6, 1, 0] rfl)
            · 
              refine lv_iload_n hx hb d_Md_counted_189 rfl (lv_at hl 2 rfl) ?_
              refine lv_iload_n hx hb d_Md_counted_190 rfl (lv_at hl 3 rfl) ?_
              refine lv_aload_n hx hb d_Md_counted_191 rfl (lv_at hl 0 rfl) ?_
              refine va_get (D := D) (ci := 7) (v := .ref (a 32)) (C := R_Md) (T := F_Md) (N := 34) hx hb hts (fun w h => List.mem_cons_of_mem _ (i_Md w h)) hown hK.1 hP 0 (wMd_0 t a (gSt σ 0 0 0)) rfl 32 (by decide) (hts (.fieldLink R_Md 83 "FlatBoxesModel" "eaches" "[I") (List.mem_cons_of_mem _ (gIn k_698 (by decide +kernel)))) (fun _ h9 => h9) rfl d_Md_counted_192 ?_
              refine lv_iload hx hb d_Md_counted_195 (lv_at hl 6 rfl) ?_
              refine g_iald hx hb hK.1 hP 25 0 (wMd_32 t a (gSt σ 0 0 0)) rfl (6 * b + j) (rfl) (by omega) (by decide) d_Md_counted_197 ?_
              refine lv_topi (fun v_17 e_17 => ?_)
              obtain rfl : σ 32 (6 * b + j) = v_17 := (e_17.trans (rfl)).symm
              refine lv_iadd hx hb d_Md_counted_198 ?_
              refine lv_iload hx hb d_Md_counted_199 (lv_at hl 4 rfl) ?_
              refine lv_aload_n hx hb d_Md_counted_201 rfl (lv_at hl 0 rfl) ?_
              refine va_get (D := D) (ci := 7) (v := .ref (a 33)) (C := R_Md) (T := F_Md) (N := 34) hx hb hts (fun w h => List.mem_cons_of_mem _ (i_Md w h)) hown hK.1 hP 0 (wMd_0 t a (gSt σ 0 0 0)) rfl 33 (by decide) (hts (.fieldLink R_Md 86 "FlatBoxesModel" "spreads" "[I") (List.mem_cons_of_mem _ (gIn k_699 (by decide +kernel)))) (fun _ h9 => h9) rfl d_Md_counted_202 ?_
              refine lv_iload hx hb d_Md_counted_205 (lv_at hl 6 rfl) ?_
              refine g_iald hx hb hK.1 hP 26 0 (wMd_33 t a (gSt σ 0 0 0)) rfl (6 * b + j) (rfl) (by omega) (by decide) d_Md_counted_207 ?_
              refine lv_topi (fun v_18 e_18 => ?_)
              obtain rfl : σ 33 (6 * b + j) = v_18 := (e_18.trans (rfl)).symm
              refine lv_iadd hx hb d_Md_counted_208 ?_
              refine g_si (k := 3) (As := [.int wt, .int (sm + (σ 32 (6 * b + j))), .int (sr + (σ 33 (6 * b + j)))]) (rest := []) (own := R_Md) (index := 167) ⟨hx, hb, hml, hown, hts⟩ (c_Md_isWithin l D t a (gSt σ 0 0 0) wt (sm + (σ 32 (6 * b + j))) (sr + (σ 33 (6 * b + j)))) (gg_Md_167 _) (by decide +kernel) ⟨Nat.le_of_ble_eq_true rfl, Nat.le_of_ble_eq_true rfl⟩ rfl hK hP hD hS hl.1 rfl (Nat.le_of_ble_eq_true rfl) ⟨Nat.zero_le _, Nat.zero_le _⟩ d_Md_counted_209 (fun r_19 u_19 H locs q_19 hP hD hS => ?_)
              obtain ⟨rfl, hu_19⟩ := q_19
              rw [hu_19] at hP hD
              refine lv_if_eq (tgt := 219) hx hb d_Md_counted_212 (by decide) (fun c_20 => ?_) (fun c_20 => ?_)
              · 
                refine lv_iconst (v := 0) hx hb d_Md_counted_219 (by decide) ?_
                refine lv_istore (lv' := [(5, .int 0), (0, .ref (a 0)), (1, .int (nI b)), (2, .int wt), (3, .int sm), (4, .int sr), (6, .int (nI (6 * b + j)))]) hx hb d_Md_counted_220 hl (by decide) rfl (fun ls hl => ?_)
                refine lv_iinc (v := nI (6 * b + j + 1)) (lv' := [(6, .int (nI (6 * b + j + 1))), (5, .int 0), (0, .ref (a 0)), (1, .int (nI b)), (2, .int wt), (3, .int sm), (4, .int sr)]) hx hb d_Md_counted_222 hl (k := 6) rfl (nI_1 (6 * b + j)) (by decide) rfl (fun ls hl => ?_)
                refine lv_goto (tgt := 132) hx hb d_Md_counted_225 (by decide) ?_
                exact ih b (j + 1) sm sr 0 _ _ _ (by omega) (by omega) (by omega) (by omega) (by first | (subst hun; simp [mUns, c_4, h_4, c_6, c_8, c_16, c_20]; done) | (subst hun; simp [mUns, c_4, h_4, c_6, c_8, c_16, c_20]; exact gb1 (mWithin01 _ _ _) (by assumption))) (hbg) (hcd) (hs1) (hs2) (hw) hP hD hS (lv_sub hl [2, 3, 4, 5, 6, 1, 0] rfl)
              · 
                refine lv_iconst (v := 1) hx hb d_Md_counted_215 (by decide) ?_
                refine lv_goto (tgt := 220) hx hb d_Md_counted_216 (by decide) ?_
                refine lv_istore (lv' := [(5, .int 1), (0, .ref (a 0)), (1, .int (nI b)), (2, .int wt), (3, .int sm), (4, .int sr), (6, .int (nI (6 * b + j)))]) hx hb d_Md_counted_220 hl (by decide) rfl (fun ls hl => ?_)
                refine lv_iinc (v := nI (6 * b + j + 1)) (lv' := [(6, .int (nI (6 * b + j + 1))), (5, .int 1), (0, .ref (a 0)), (1, .int (nI b)), (2, .int wt), (3, .int sm), (4, .int sr)]) hx hb d_Md_counted_222 hl (k := 6) rfl (nI_1 (6 * b + j)) (by decide) rfl (fun ls hl => ?_)
                refine lv_goto (tgt := 132) hx hb d_Md_counted_225 (by decide) ?_
                exact ih b (j + 1) sm sr 1 _ _ _ (by omega) (by omega) (by omega) (by omega) (by first | (subst hun; simp [mUns, c_4, h_4, c_6, c_8, c_16, c_20]; done) | (subst hun; simp [mUns, c_4, h_4, c_6, c_8, c_16, c_20]; exact gb1 (mWithin01 _ _ _) (by assumption))) (hbg) (hcd) (hs1) (hs2) (hw) hP hD hS (lv_sub hl [2, 3, 4, 5, 6, 1, 0] rfl)
  have cut_51 : ∀ (n : Nat) (b : Nat) (j : Nat) (sm : Int32) (sr : Int32) (H : Heap) (locs : List Loc) (ls : Array Slot), (b < nb) → (j ≤ kc b) → (kc b ≤ 6) → (kc b + 1 ≤ j + n) → (bg = nI b) → (mCntC nb bg wt = 0) → (sm = mS1 σ 32 b j) → (sr = mS1 σ 33 b j) → va_P D gCl (wMd t a (gSt σ 0 0 0)) H → va_D A (wMd t a (gSt σ 0 0 0)) → va_S A s.heap H locs → lv_has ls 7 [(0, .ref (a 0)), (1, .int (nI b)), (2, .int wt), (3, .int sm), (4, .int sr), (5, .int (nI (6 * b + j)))] → gGo l p e s m below meth c D t A 1 [.ref (a 0), .int bg, .int wt] (wMd t a) (fun r u => r = mCntR σ nb kc bg wt ∧ u = gSt σ 0 0 (mCntC nb bg wt)) H locs (F0 m 51 ls []) := by
    intro n
    induction n with
    | zero =>
      intro b j sm sr H locs ls hbn hj hk6 hf hbg hcd hs1 hs2 hP hD hS hl
      exact absurd hf (by omega)
    | succ n ih =>
      intro b j sm sr H locs ls hbn hj hk6 hf hbg hcd hs1 hs2 hP hD hS hl
      refine lv_iload hx hb d_Md_counted_51 (lv_at hl 5 rfl) ?_
      refine lv_bipush (v := 6) hx hb d_Md_counted_53 (by decide) ?_
      refine lv_iload_n hx hb d_Md_counted_55 rfl (lv_at hl 1 rfl) ?_
      refine lv_imul hx hb d_Md_counted_56 ?_
      refine lv_topi (fun v_21 e_21 => ?_)
      obtain rfl : nI (6 * b) = v_21 := (e_21.trans (gMul6 b)).symm
      refine lv_aload_n hx hb d_Md_counted_57 rfl (lv_at hl 0 rfl) ?_
      refine va_get (D := D) (ci := 7) (v := .ref (a 30)) (C := R_Md) (T := F_Md) (N := 34) hx hb hts (fun w h => List.mem_cons_of_mem _ (i_Md w h)) hown hK.1 hP 0 (wMd_0 t a (gSt σ 0 0 0)) rfl 30 (by decide) (hts (.fieldLink R_Md 77 "FlatBoxesModel" "kindCounts" "[I") (List.mem_cons_of_mem _ (gIn k_696 (by decide +kernel)))) (fun _ h9 => h9) rfl d_Md_counted_58 ?_
      refine lv_iload_n hx hb d_Md_counted_61 rfl (lv_at hl 1 rfl) ?_
      refine g_iald hx hb hK.1 hP 23 0 (wMd_30 t a (gSt σ 0 0 0)) rfl b (rfl) (by omega) (by decide) d_Md_counted_62 ?_
      refine lv_topi (fun v_22 e_22 => ?_)
      obtain rfl : nI (kc b) = v_22 := (e_22.trans ((hkc b (by omega)).1)).symm
      refine lv_iadd hx hb d_Md_counted_63 ?_
      refine lv_topi (fun v_23 e_23 => ?_)
      obtain rfl : nI (6 * b + kc b) = v_23 := (e_23.trans (nI_add _ _)).symm
      refine lv_icmp_ge (tgt := 111) hx hb d_Md_counted_64 (by decide) (fun c_24 => ?_) (fun c_24 => ?_)
      · 
        have h_24 : 6 * b + kc b ≤ 6 * b + j := (nI_leI (a := 6 * b + kc b) (b := 6 * b + j) (by omega) (by omega)).mp c_24
        refine lv_iload_n hx hb d_Md_counted_111 rfl (lv_at hl 2 rfl) ?_
        refine lv_iload_n hx hb d_Md_counted_112 rfl (lv_at hl 3 rfl) ?_
        refine lv_iload hx hb d_Md_counted_113 (lv_at hl 4 rfl) ?_
        refine g_si (k := 3) (As := [.int wt, .int sm, .int sr]) (rest := []) (own := R_Md) (index := 167) ⟨hx, hb, hml, hown, hts⟩ (c_Md_isWithin l D t a (gSt σ 0 0 0) wt sm sr) (gg_Md_167 _) (by decide +kernel) ⟨Nat.le_of_ble_eq_true rfl, Nat.le_of_ble_eq_true rfl⟩ rfl hK hP hD hS hl.1 rfl (Nat.le_of_ble_eq_true rfl) ⟨Nat.zero_le _, Nat.zero_le _⟩ d_Md_counted_115 (fun r_25 u_25 H locs q_25 hP hD hS => ?_)
        obtain ⟨rfl, hu_25⟩ := q_25
        rw [hu_25] at hP hD
        refine lv_if_ne (tgt := 123) hx hb d_Md_counted_118 (by decide) (fun c_26 => ?_) (fun c_26 => ?_)
        · 
          refine lv_iconst (v := 0) hx hb d_Md_counted_123 (by decide) ?_
          refine lv_istore (lv' := [(5, .int 0), (0, .ref (a 0)), (1, .int (nI b)), (2, .int wt), (3, .int sm), (4, .int sr)]) hx hb d_Md_counted_124 hl (by decide) rfl (fun ls hl => ?_)
          refine lv_bipush (v := 6) hx hb d_Md_counted_126 (by decide) ?_
          refine lv_iload_n hx hb d_Md_counted_128 rfl (lv_at hl 2 rfl) ?_
          refine lv_imul hx hb d_Md_counted_129 ?_
          refine lv_topi (fun v_27 e_27 => ?_)
          obtain rfl : nI (6 * b) = v_27 := (e_27.trans (gMul6 b)).symm
          refine lv_istore (lv' := [(6, .int (nI (6 * b))), (5, .int 0), (0, .ref (a 0)), (1, .int (nI b)), (2, .int wt), (3, .int sm), (4, .int sr)]) hx hb d_Md_counted_130 hl (by decide) rfl (fun ls hl => ?_)
          exact cut_132 (kc b + 1) b 0 sm sr 0 _ _ _ (by omega) (by omega) (hk6) (by omega) (rfl) (hbg) (hcd) (by obtain rfl : j = kc b := (by omega); exact hs1) (by obtain rfl : j = kc b := (by omega); exact hs2) (by assumption) hP hD hS (lv_sub hl [2, 3, 4, 5, 6, 1, 0] rfl)
        · 
          refine lv_iconst (v := 0) hx hb d_Md_counted_121 (by decide) ?_
          exact W.iret (v := 0) hx hb hr (fun U hU hW => ⟨⟨0, gSt σ 0 0 0, rfl, by obtain rfl : j = kc b := (by omega); subst hs1 hs2; exact ⟨by rw [mCntR, if_pos hcd, hbg, nI_clamp (by omega), mCntV, if_pos (by assumption)], by rw [hcd]⟩, by rw [hU]; exact hP, hD⟩, hS.F hU⟩) hS.2.2 d_Md_counted_122
      · 
        have h_24 : ¬ 6 * b + kc b ≤ 6 * b + j := fun q9 => c_24 ((nI_leI (a := 6 * b + kc b) (b := 6 * b + j) (by omega) (by omega)).mpr q9)
        refine lv_iload_n hx hb d_Md_counted_67 rfl (lv_at hl 3 rfl) ?_
        refine lv_aload_n hx hb d_Md_counted_68 rfl (lv_at hl 0 rfl) ?_
        refine va_get (D := D) (ci := 7) (v := .ref (a 31)) (C := R_Md) (T := F_Md) (N := 34) hx hb hts (fun w h => List.mem_cons_of_mem _ (i_Md w h)) hown hK.1 hP 0 (wMd_0 t a (gSt σ 0 0 0)) rfl 31 (by decide) (hts (.fieldLink R_Md 80 "FlatBoxesModel" "manies" "[I") (List.mem_cons_of_mem _ (gIn k_697 (by decide +kernel)))) (fun _ h9 => h9) rfl d_Md_counted_69 ?_
        refine lv_iload hx hb d_Md_counted_72 (lv_at hl 5 rfl) ?_
        refine g_iald hx hb hK.1 hP 24 0 (wMd_31 t a (gSt σ 0 0 0)) rfl (6 * b + j) (rfl) (by omega) (by decide) d_Md_counted_74 ?_
        refine lv_topi (fun v_28 e_28 => ?_)
        obtain rfl : σ 31 (6 * b + j) = v_28 := (e_28.trans (rfl)).symm
        refine lv_aload_n hx hb d_Md_counted_75 rfl (lv_at hl 0 rfl) ?_
        refine va_get (D := D) (ci := 7) (v := .ref (a 32)) (C := R_Md) (T := F_Md) (N := 34) hx hb hts (fun w h => List.mem_cons_of_mem _ (i_Md w h)) hown hK.1 hP 0 (wMd_0 t a (gSt σ 0 0 0)) rfl 32 (by decide) (hts (.fieldLink R_Md 83 "FlatBoxesModel" "eaches" "[I") (List.mem_cons_of_mem _ (gIn k_698 (by decide +kernel)))) (fun _ h9 => h9) rfl d_Md_counted_76 ?_
        refine lv_iload hx hb d_Md_counted_79 (lv_at hl 5 rfl) ?_
        refine g_iald hx hb hK.1 hP 25 0 (wMd_32 t a (gSt σ 0 0 0)) rfl (6 * b + j) (rfl) (by omega) (by decide) d_Md_counted_81 ?_
        refine lv_topi (fun v_29 e_29 => ?_)
        obtain rfl : σ 32 (6 * b + j) = v_29 := (e_29.trans (rfl)).symm
        refine lv_imul hx hb d_Md_counted_82 ?_
        refine lv_iadd hx hb d_Md_counted_83 ?_
        refine lv_istore_n (lv' := [(3, .int (sm + ((σ 31 (6 * b + j)) * (σ 32 (6 * b + j))))), (0, .ref (a 0)), (1, .int (nI b)), (2, .int wt), (4, .int sr), (5, .int (nI (6 * b + j)))]) hx hb d_Md_counted_84 rfl hl (by decide) rfl (fun ls hl => ?_)
        refine lv_iload hx hb d_Md_counted_85 (lv_at hl 4 rfl) ?_
        refine lv_aload_n hx hb d_Md_counted_87 rfl (lv_at hl 1 rfl) ?_
        refine va_get (D := D) (ci := 7) (v := .ref (a 31)) (C := R_Md) (T := F_Md) (N := 34) hx hb hts (fun w h => List.mem_cons_of_mem _ (i_Md w h)) hown hK.1 hP 0 (wMd_0 t a (gSt σ 0 0 0)) rfl 31 (by decide) (hts (.fieldLink R_Md 80 "FlatBoxesModel" "manies" "[I") (List.mem_cons_of_mem _ (gIn k_697 (by decide +kernel)))) (fun _ h9 => h9) rfl d_Md_counted_88 ?_
        refine lv_iload hx hb d_Md_counted_91 (lv_at hl 5 rfl) ?_
        refine g_iald hx hb hK.1 hP 24 0 (wMd_31 t a (gSt σ 0 0 0)) rfl (6 * b + j) (rfl) (by omega) (by decide) d_Md_counted_93 ?_
        refine lv_topi (fun v_30 e_30 => ?_)
        obtain rfl : σ 31 (6 * b + j) = v_30 := (e_30.trans (rfl)).symm
        refine lv_aload_n hx hb d_Md_counted_94 rfl (lv_at hl 1 rfl) ?_
        refine va_get (D := D) (ci := 7) (v := .ref (a 33)) (C := R_Md) (T := F_Md) (N := 34) hx hb hts (fun w h => List.mem_cons_of_mem _ (i_Md w h)) hown hK.1 hP 0 (wMd_0 t a (gSt σ 0 0 0)) rfl 33 (by decide) (hts (.fieldLink R_Md 86 "FlatBoxesModel" "spreads" "[I") (List.mem_cons_of_mem _ (gIn k_699 (by decide +kernel)))) (fun _ h9 => h9) rfl d_Md_counted_95 ?_
        refine lv_iload hx hb d_Md_counted_98 (lv_at hl 5 rfl) ?_
        refine g_iald hx hb hK.1 hP 26 0 (wMd_33 t a (gSt σ 0 0 0)) rfl (6 * b + j) (rfl) (by omega) (by decide) d_Md_counted_100 ?_
        refine lv_topi (fun v_31 e_31 => ?_)
        obtain rfl : σ 33 (6 * b + j) = v_31 := (e_31.trans (rfl)).symm
        refine lv_imul hx hb d_Md_counted_101 ?_
        refine lv_iadd hx hb d_Md_counted_102 ?_
        refine lv_istore (lv' := [(4, .int (sr + ((σ 31 (6 * b + j)) * (σ 33 (6 * b + j))))), (3, .int (sm + ((σ 31 (6 * b + j)) * (σ 32 (6 * b + j))))), (0, .ref (a 0)), (1, .int (nI b)), (2, .int wt), (5, .int (nI (6 * b + j)))]) hx hb d_Md_counted_103 hl (by decide) rfl (fun ls hl => ?_)
        refine lv_iinc (v := nI (6 * b + j + 1)) (lv' := [(5, .int (nI (6 * b + j + 1))), (4, .int (sr + ((σ 31 (6 * b + j)) * (σ 33 (6 * b + j))))), (3, .int (sm + ((σ 31 (6 * b + j)) * (σ 32 (6 * b + j))))), (0, .ref (a 0)), (1, .int (nI b)), (2, .int wt)]) hx hb d_Md_counted_105 hl (k := 5) rfl (nI_1 (6 * b + j)) (by decide) rfl (fun ls hl => ?_)
        refine lv_goto (tgt := 51) hx hb d_Md_counted_108 (by decide) ?_
        exact ih b (j + 1) (sm + ((σ 31 (6 * b + j)) * (σ 32 (6 * b + j)))) (sr + ((σ 31 (6 * b + j)) * (σ 33 (6 * b + j)))) _ _ _ (by omega) (by omega) (by omega) (by omega) (hbg) (hcd) (by rw [hs1]; rfl) (by rw [hs2]; rfl) hP hD hS (lv_sub hl [3, 4, 5, 2, 1, 0] rfl)
  refine lv_aload_n hx hb d_Md_counted_0 rfl (lv_at hl 0 rfl) ?_
  refine lv_iload_n hx hb d_Md_counted_1 rfl (lv_at hl 1 rfl) ?_
  refine lv_iconst (v := 0) hx hb d_Md_counted_2 (by decide) ?_
  refine lv_aload_n hx hb d_Md_counted_3 rfl (lv_at hl 0 rfl) ?_
  refine va_get (D := D) (ci := 7) (v := .int (σ 29 0)) (C := R_Md) (T := F_Md) (N := 34) hx hb hts (fun w h => List.mem_cons_of_mem _ (i_Md w h)) hown hK.1 hP 0 (wMd_0 t a σ) rfl 29 (by decide) (hts (.fieldLink R_Md 164 "FlatBoxesModel" "bags" "I") (List.mem_cons_of_mem _ (gIn k_695 (by decide +kernel)))) (fun _ h9 => h9) rfl d_Md_counted_4 ?_
  refine lv_topi (fun v_32 e_32 => ?_)
  obtain rfl : nI nb = v_32 := (e_32.trans hB).symm
  refine lv_iconst (v := 1) hx hb d_Md_counted_7 (by decide) ?_
  refine lv_isub hx hb d_Md_counted_8 ?_
  refine g_si (k := 3) (As := [.int bg, .int 0, .int ((nI nb) - 1)]) (rest := [.ref (a 0)]) (own := R_Md) (index := 96) ⟨hx, hb, hml, hown, hts⟩ (c_Md_in l D t a σ bg 0 ((nI nb) - 1)) (gg_Md_96 _) (by decide +kernel) ⟨Nat.le_of_ble_eq_true rfl, Nat.le_of_ble_eq_true rfl⟩ rfl hK hP hD hS hl.1 rfl (Nat.le_of_ble_eq_true rfl) ⟨Nat.zero_le _, Nat.zero_le _⟩ d_Md_counted_9 (fun r_33 u_33 H locs q_33 hP hD hS => ?_)
  obtain ⟨rfl, hu_33⟩ := q_33
  rw [hu_33] at hP hD
  refine lv_if_ne (tgt := 19) hx hb d_Md_counted_12 (by decide) (fun c_34 => ?_) (fun c_34 => ?_)
  · 
    refine lv_iload_n hx hb d_Md_counted_19 rfl (lv_at hl 2 rfl) ?_
    refine lv_if_ge (tgt := 27) hx hb d_Md_counted_20 (by decide) (fun c_35 => ?_) (fun c_35 => ?_)
    · 
      refine lv_iconst (v := 0) hx hb d_Md_counted_27 (by decide) ?_
      refine va_put (D := D) (ci := 7) (v := .int 0) (ty := .int) (C := R_Md) (T := F_Md) (N := 34) hx hb hts (fun w h => List.mem_cons_of_mem _ (i_Md w h)) t_Md t_Md_ok n_Md hown hK.1 hP hD hS 0 (wMd_0 t a σ) rfl 0 (by decide) (hts (.fieldLink R_Md 93 "FlatBoxesModel" "code" "I") (List.mem_cons_of_mem _ (gIn k_666 (by decide +kernel)))) (fun _ h9 => h9) rfl (by decide +kernel) rfl rfl (Nat.le_of_ble_eq_true rfl) d_Md_counted_28 (fun H locs hP hD hS => ?_)
      have hP : va_P D gCl (wMd t a (gSt σ 0 0 0)) H := hP
      have hD : va_D A (wMd t a (gSt σ 0 0 0)) := hD
      refine lv_aload_n hx hb d_Md_counted_31 rfl (lv_at hl 0 rfl) ?_
      refine va_get (D := D) (ci := 7) (v := .int ((gSt σ 0 0 0) 0 0)) (C := R_Md) (T := F_Md) (N := 34) hx hb hts (fun w h => List.mem_cons_of_mem _ (i_Md w h)) hown hK.1 hP 0 (wMd_0 t a (gSt σ 0 0 0)) rfl 0 (by decide) (hts (.fieldLink R_Md 93 "FlatBoxesModel" "code" "I") (List.mem_cons_of_mem _ (gIn k_666 (by decide +kernel)))) (fun _ h9 => h9) rfl d_Md_counted_32 ?_
      refine lv_topi (fun v_36 e_36 => ?_)
      obtain rfl : 0 = v_36 := (e_36.trans (rfl)).symm
      refine lv_if_le (tgt := 40) hx hb d_Md_counted_35 (by decide) (fun c_37 => ?_) (fun c_37 => ?_)
      · 
        have hcd : mCntC nb bg wt = 0 := by simp [mCntC, c_34, c_35, c_37]
        obtain ⟨b, hbn, rfl⟩ := mIn_nat (n := nb) (by omega) c_34
        refine lv_iconst (v := 0) hx hb d_Md_counted_40 (by decide) ?_
        refine lv_istore_n (lv' := [(3, .int 0), (0, .ref (a 0)), (1, .int (nI b)), (2, .int wt)]) hx hb d_Md_counted_41 rfl hl (by decide) rfl (fun ls hl => ?_)
        refine lv_iconst (v := 0) hx hb d_Md_counted_42 (by decide) ?_
        refine lv_istore (lv' := [(4, .int 0), (3, .int 0), (0, .ref (a 0)), (1, .int (nI b)), (2, .int wt)]) hx hb d_Md_counted_43 hl (by decide) rfl (fun ls hl => ?_)
        refine lv_bipush (v := 6) hx hb d_Md_counted_45 (by decide) ?_
        refine lv_iload_n hx hb d_Md_counted_47 rfl (lv_at hl 3 rfl) ?_
        refine lv_imul hx hb d_Md_counted_48 ?_
        refine lv_topi (fun v_38 e_38 => ?_)
        obtain rfl : nI (6 * b) = v_38 := (e_38.trans (gMul6 b)).symm
        refine lv_istore (lv' := [(5, .int (nI (6 * b))), (4, .int 0), (3, .int 0), (0, .ref (a 0)), (1, .int (nI b)), (2, .int wt)]) hx hb d_Md_counted_49 hl (by decide) rfl (fun ls hl => ?_)
        exact cut_51 (kc b + 1) b 0 0 0 _ _ _ (by omega) (by omega) ((hkc b hbn).2) (by omega) (rfl) (hcd) (rfl) (rfl) hP hD hS (lv_sub hl [3, 4, 5, 2, 1, 0] rfl)
      · 
        exact absurd c_37 (by decide)
    · 
      refine lv_iconst (v := 2) hx hb d_Md_counted_23 (by decide) ?_
      refine lv_goto (tgt := 28) hx hb d_Md_counted_24 (by decide) ?_
      refine va_put (D := D) (ci := 7) (v := .int 2) (ty := .int) (C := R_Md) (T := F_Md) (N := 34) hx hb hts (fun w h => List.mem_cons_of_mem _ (i_Md w h)) t_Md t_Md_ok n_Md hown hK.1 hP hD hS 0 (wMd_0 t a σ) rfl 0 (by decide) (hts (.fieldLink R_Md 93 "FlatBoxesModel" "code" "I") (List.mem_cons_of_mem _ (gIn k_666 (by decide +kernel)))) (fun _ h9 => h9) rfl (by decide +kernel) rfl rfl (Nat.le_of_ble_eq_true rfl) d_Md_counted_28 (fun H locs hP hD hS => ?_)
      have hP : va_P D gCl (wMd t a (gSt σ 0 0 2)) H := hP
      have hD : va_D A (wMd t a (gSt σ 0 0 2)) := hD
      refine lv_aload_n hx hb d_Md_counted_31 rfl (lv_at hl 0 rfl) ?_
      refine va_get (D := D) (ci := 7) (v := .int ((gSt σ 0 0 2) 0 0)) (C := R_Md) (T := F_Md) (N := 34) hx hb hts (fun w h => List.mem_cons_of_mem _ (i_Md w h)) hown hK.1 hP 0 (wMd_0 t a (gSt σ 0 0 2)) rfl 0 (by decide) (hts (.fieldLink R_Md 93 "FlatBoxesModel" "code" "I") (List.mem_cons_of_mem _ (gIn k_666 (by decide +kernel)))) (fun _ h9 => h9) rfl d_Md_counted_32 ?_
      refine lv_topi (fun v_39 e_39 => ?_)
      obtain rfl : 2 = v_39 := (e_39.trans (rfl)).symm
      refine lv_if_le (tgt := 40) hx hb d_Md_counted_35 (by decide) (fun c_40 => ?_) (fun c_40 => ?_)
      · 
        exact absurd c_40 (by decide)
      · 
        refine lv_iconst (v := 0) hx hb d_Md_counted_38 (by decide) ?_
        exact W.iret (v := 0) hx hb hr (fun U hU hW => ⟨⟨0, gSt σ 0 0 2, rfl, by exact ⟨by simp [mCntR, mCntC, c_34, c_35, c_40], by simp [mCntC, c_34, c_35, c_40]⟩, by rw [hU]; exact hP, hD⟩, hS.F hU⟩) hS.2.2 d_Md_counted_39
  · 
    refine lv_iconst (v := 1) hx hb d_Md_counted_15 (by decide) ?_
    refine lv_goto (tgt := 28) hx hb d_Md_counted_16 (by decide) ?_
    refine va_put (D := D) (ci := 7) (v := .int 1) (ty := .int) (C := R_Md) (T := F_Md) (N := 34) hx hb hts (fun w h => List.mem_cons_of_mem _ (i_Md w h)) t_Md t_Md_ok n_Md hown hK.1 hP hD hS 0 (wMd_0 t a σ) rfl 0 (by decide) (hts (.fieldLink R_Md 93 "FlatBoxesModel" "code" "I") (List.mem_cons_of_mem _ (gIn k_666 (by decide +kernel)))) (fun _ h9 => h9) rfl (by decide +kernel) rfl rfl (Nat.le_of_ble_eq_true rfl) d_Md_counted_28 (fun H locs hP hD hS => ?_)
    have hP : va_P D gCl (wMd t a (gSt σ 0 0 1)) H := hP
    have hD : va_D A (wMd t a (gSt σ 0 0 1)) := hD
    refine lv_aload_n hx hb d_Md_counted_31 rfl (lv_at hl 0 rfl) ?_
    refine va_get (D := D) (ci := 7) (v := .int ((gSt σ 0 0 1) 0 0)) (C := R_Md) (T := F_Md) (N := 34) hx hb hts (fun w h => List.mem_cons_of_mem _ (i_Md w h)) hown hK.1 hP 0 (wMd_0 t a (gSt σ 0 0 1)) rfl 0 (by decide) (hts (.fieldLink R_Md 93 "FlatBoxesModel" "code" "I") (List.mem_cons_of_mem _ (gIn k_666 (by decide +kernel)))) (fun _ h9 => h9) rfl d_Md_counted_32 ?_
    refine lv_topi (fun v_41 e_41 => ?_)
    obtain rfl : 1 = v_41 := (e_41.trans (rfl)).symm
    refine lv_if_le (tgt := 40) hx hb d_Md_counted_35 (by decide) (fun c_42 => ?_) (fun c_42 => ?_)
    · 
      exact absurd c_42 (by decide)
    · 
      refine lv_iconst (v := 0) hx hb d_Md_counted_38 (by decide) ?_
      exact W.iret (v := 0) hx hb hr (fun U hU hW => ⟨⟨0, gSt σ 0 0 1, rfl, by exact ⟨by simp [mCntR, mCntC, c_34, c_42], by simp [mCntC, c_34, c_42]⟩, by rw [hU]; exact hP, hD⟩, hS.F hU⟩) hS.2.2 d_Md_counted_39
set_option maxHeartbeats 4000000 in
set_option maxRecDepth 100000 in
theorem c_Md_packBox (l : Launch) (D : va_G) (t : Nat → ClassId) (a : Nat → Nat) (σ : Nat → Nat → Int32) (bx np sx1 c1 : Nat) (rho ord : Nat → Nat) (hN : σ 8 0 = nI np) (hN8 : np ≤ 8) (hbx : bx < 8) (hrow : ∀ q, q < np → σ 26 q = nI (rho q) ∧ rho q < 8) (hsx : (mSets σ rho np).1 28 bx = nI sx1) (hsx2 : sx1 < 256) (hcc : σ 23 sx1 = nI c1) (hc4 : c1 < 4) (hord : ∀ k, k < np → ord k < np ∧ mBT (σ 11) np (nI k) np 0 = nI (ord k)) : gMi l D t y_Md_packBox b_Md_packBox 4 (some .int) 2 [.ref (a 0), .int (nI bx)] (wMd t a σ) (wMd t a) (fun r u => r = nI c1 ∧ u = (mPk (mSets σ rho np).1 ord (nI sx1) c1 np).1) := by
  intro A
  refine Met.ofW (cc := b_Md_packBox) (maxL := 4) (ret := (some .int)) (by decide) rfl ?_
  intro p e s m args below meth c s₁ B hml hv
  obtain ⟨rfl, hK, hP, hD⟩ := hv
  have hx := B.exec
  have hb := B.bytes
  have hr := B.returns
  have hts := atoms_spec (ws := .code y_Md_packBox b_Md_packBox 4 (some .int) :: gBig) B.pre
  have hown : s.vm.findClass R_Md = some m.cls := findClass_of_methodNamed B.named
  have hlocks := B.notSynchronized
  have hS : va_S A s.heap s.heap [] := va_S.rf
  have hl := lv_entry ([.ref (a 0), .int (nI bx)]) (n := 4) (Nat.le_of_ble_eq_true rfl)
  rw [lg_entry_eq]
  generalize (lg_sl ([.ref (a 0), .int (nI bx)]) ++ List.replicate (4 - (lg_sl ([.ref (a 0), .int (nI bx)])).length) Slot.unset).toArray = ls at hl ⊢
  have hl : lv_has ls 4 [(0, .ref (a 0)), (1, .int (nI bx))] := hl
  show gGo l p e s m below meth c D t A 2 [.ref (a 0), .int (nI bx)] (wMd t a) (fun r u => r = nI c1 ∧ u = (mPk (mSets σ rho np).1 ord (nI sx1) c1 np).1) s.heap [] (F0 m 0 ls [])
  refine lv_aload_n hx hb d_Md_packBox_0 rfl (lv_at hl 0 rfl) ?_
  refine lv_aload_n hx hb d_Md_packBox_1 rfl (lv_at hl 0 rfl) ?_
  refine va_get (D := D) (ci := 7) (v := .ref (a 26)) (C := R_Md) (T := F_Md) (N := 34) hx hb hts (fun w h => List.mem_cons_of_mem _ (i_Md w h)) hown hK.1 hP 0 (wMd_0 t a σ) rfl 26 (by decide) (hts (.fieldLink R_Md 68 "FlatBoxesModel" "shares" "[I") (List.mem_cons_of_mem _ (gIn k_692 (by decide +kernel)))) (fun _ h9 => h9) rfl d_Md_packBox_2 ?_
  refine g_vi (k := 1) (As := [.ref (a 26)]) (rest := []) (own := R_Md) (C := R_Md) (index := 144) ⟨hx, hb, hml, hown, hts⟩ (c_Md_setsOf_s l D t a σ np rho hN hN8 hrow) (gg_Md_144 _) (by decide +kernel) ⟨Nat.le_of_ble_eq_true rfl, Nat.le_of_ble_eq_true rfl⟩ rfl (va_recv hK.1 hP (ci := 7) (q0 := 0) rfl (wMd_0 t a σ)) hK hP hD hS hl.1 rfl (Nat.le_of_ble_eq_true rfl) ⟨Nat.zero_le _, Nat.zero_le _⟩ d_Md_packBox_5 (fun r_1 u_1 H locs q_1 hP hD hS => ?_)
  obtain ⟨rfl, hu_1⟩ := q_1
  rw [hu_1] at hP hD
  refine lv_istore_n (lv' := [(2, .int (nI (mSets σ rho np).2)), (0, .ref (a 0)), (1, .int (nI bx))]) hx hb d_Md_packBox_8 rfl hl (by decide) rfl (fun ls hl => ?_)
  refine lv_aload_n hx hb d_Md_packBox_9 rfl (lv_at hl 1 rfl) ?_
  refine va_get (D := D) (ci := 7) (v := .ref (a 23)) (C := R_Md) (T := F_Md) (N := 34) hx hb hts (fun w h => List.mem_cons_of_mem _ (i_Md w h)) hown hK.1 hP 0 (wMd_0 t a ((mSets σ rho np).1)) rfl 23 (by decide) (hts (.fieldLink R_Md 65 "FlatBoxesModel" "boxOf" "[I") (List.mem_cons_of_mem _ (gIn k_689 (by decide +kernel)))) (fun _ h9 => h9) rfl d_Md_packBox_10 ?_
  refine lv_aload_n hx hb d_Md_packBox_13 rfl (lv_at hl 1 rfl) ?_
  refine va_get (D := D) (ci := 7) (v := .ref (a 28)) (C := R_Md) (T := F_Md) (N := 34) hx hb hts (fun w h => List.mem_cons_of_mem _ (i_Md w h)) hown hK.1 hP 0 (wMd_0 t a ((mSets σ rho np).1)) rfl 28 (by decide) (hts (.fieldLink R_Md 74 "FlatBoxesModel" "sets" "[I") (List.mem_cons_of_mem _ (gIn k_694 (by decide +kernel)))) (fun _ h9 => h9) rfl d_Md_packBox_14 ?_
  refine lv_iload_n hx hb d_Md_packBox_17 rfl (lv_at hl 2 rfl) ?_
  refine g_iald hx hb hK.1 hP 22 0 (wMd_28 t a ((mSets σ rho np).1)) rfl bx (rfl) (by omega) (by decide) d_Md_packBox_18 ?_
  refine lv_topi (fun v_2 e_2 => ?_)
  obtain rfl : nI sx1 = v_2 := (e_2.trans (hsx)).symm
  refine g_iald hx hb hK.1 hP 19 0 (wMd_23 t a ((mSets σ rho np).1)) rfl sx1 (rfl) (by omega) (by decide) d_Md_packBox_19 ?_
  refine lv_topi (fun v_3 e_3 => ?_)
  obtain rfl : nI c1 = v_3 := (e_3.trans ((congrFun (mSets_fix σ rho (by decide) np) sx1).trans hcc)).symm
  refine lv_istore_n (lv' := [(3, .int (nI c1)), (2, .int (nI (mSets σ rho np).2)), (0, .ref (a 0)), (1, .int (nI bx))]) hx hb d_Md_packBox_20 rfl hl (by decide) rfl (fun ls hl => ?_)
  refine lv_aload_n hx hb d_Md_packBox_21 rfl (lv_at hl 2 rfl) ?_
  refine lv_aload_n hx hb d_Md_packBox_22 rfl (lv_at hl 2 rfl) ?_
  refine va_get (D := D) (ci := 7) (v := .ref (a 28)) (C := R_Md) (T := F_Md) (N := 34) hx hb hts (fun w h => List.mem_cons_of_mem _ (i_Md w h)) hown hK.1 hP 0 (wMd_0 t a ((mSets σ rho np).1)) rfl 28 (by decide) (hts (.fieldLink R_Md 74 "FlatBoxesModel" "sets" "[I") (List.mem_cons_of_mem _ (gIn k_694 (by decide +kernel)))) (fun _ h9 => h9) rfl d_Md_packBox_23 ?_
  refine lv_iload_n hx hb d_Md_packBox_26 rfl (lv_at hl 3 rfl) ?_
  refine g_iald hx hb hK.1 hP 22 0 (wMd_28 t a ((mSets σ rho np).1)) rfl bx (rfl) (by omega) (by decide) d_Md_packBox_27 ?_
  refine lv_topi (fun v_4 e_4 => ?_)
  obtain rfl : nI sx1 = v_4 := (e_4.trans (hsx)).symm
  refine lv_iload_n hx hb d_Md_packBox_28 rfl (lv_at hl 0 rfl) ?_
  refine g_vi (k := 2) (As := [.int (nI sx1), .int (nI c1)]) (rest := []) (own := R_Md) (C := R_Md) (index := 135) ⟨hx, hb, hml, hown, hts⟩ (c_Md_pack l D t a ((mSets σ rho np).1) (nI sx1) c1 np ord ((congrFun (mSets_fix σ rho (by decide) np) 0).trans hN) hN8 hc4 (fun k hk => by rw [mSets_fix σ rho (by decide) np]; exact hord k hk)) (gg_Md_135 _) (by decide +kernel) ⟨Nat.le_of_ble_eq_true rfl, Nat.le_of_ble_eq_true rfl⟩ rfl (va_recv hK.1 hP (ci := 7) (q0 := 0) rfl (wMd_0 t a ((mSets σ rho np).1))) hK hP hD hS hl.1 rfl (Nat.le_of_ble_eq_true rfl) ⟨Nat.zero_le _, Nat.zero_le _⟩ d_Md_packBox_29 (fun r_5 u_5 H locs q_5 hP hD hS => ?_)
  obtain ⟨rfl, hu_5⟩ := q_5
  rw [hu_5] at hP hD
  refine lv_pop hx hb d_Md_packBox_32 rfl ?_
  refine lv_iload_n hx hb d_Md_packBox_33 rfl (lv_at hl 0 rfl) ?_
  exact W.iret (v := nI c1) hx hb hr (fun U hU hW => ⟨⟨nI c1, (mPk ((mSets σ rho np).1) ord (nI sx1) c1 np).1, rfl, by exact ⟨rfl, rfl⟩, by rw [hU]; exact hP, hD⟩, hS.F hU⟩) hS.2.2 d_Md_packBox_34
