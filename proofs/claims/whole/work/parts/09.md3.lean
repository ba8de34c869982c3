def mOpen (σ : Nat → Nat → Int32) (q j : Nat) : Nat → Nat → Int32 := gSt (gSt (gSt (gSt (gSt (gSt σ 18 j (-(σ 1 0))) 19 j (σ 11 q)) 20 j 0) 21 j (σ 13 q)) 22 j 0) 17 0 (σ 17 0 + 1)
def mLay3 (τ : Nat → Nat → Int32) (q j : Nat) : Nat → Nat → Int32 := gSt τ 22 j (if ¬ τ 22 j = 0 then 1 else if τ 14 q = 0 then 0 else 1)
def mLay2 (τ : Nat → Nat → Int32) (q j : Nat) : Nat → Nat → Int32 := mLay3 (gSt τ 21 j (if τ 21 j ≤ τ 13 q then τ 21 j else τ 13 q)) q j
def mLay (τ : Nat → Nat → Int32) (q j : Nat) : Nat → Nat → Int32 := mLay2 (gSt (gSt (gSt (gSt τ 15 q (nI j)) 16 q (τ 18 j + τ 1 0)) 18 j (gSt (gSt τ 15 q (nI j)) 16 q (τ 18 j + τ 1 0) 16 q + τ 9 q)) 20 j (τ 20 j + τ 12 q)) q j
def mRm (τ : Nat → Nat → Int32) (q c L : Nat) : Nat := mRoom (τ 18) (τ 1 0) (τ 9 q) (τ 3 c) L 0
def mPlace (σ : Nat → Nat → Int32) (q c L : Nat) : Nat → Nat → Int32 := if mRm σ q c L = L then mLay (mOpen σ q (mRm σ q c L)) q (mRm σ q c L) else mLay σ q (mRm σ q c L)
def mNewL (τ : Nat → Nat → Int32) (q c L : Nat) : Nat := if mRm τ q c L = L then L + 1 else L
theorem mNewL_le (τ : Nat → Nat → Int32) (q c L : Nat) : mNewL τ q c L ≤ L + 1 := by unfold mNewL; split <;> omega
theorem gSt_ne (σ : Nat → Nat → Int32) (k i : Nat) (x : Int32) {j : Nat} (h : j ≠ k) : gSt σ k i x j = σ j := by unfold gSt gUp; rw [if_neg h]
theorem gSt_eq (σ : Nat → Nat → Int32) (k i : Nat) (x : Int32) : gSt σ k i x k = upd (σ k) i x := by unfold gSt gUp; rw [if_pos rfl]
theorem mLay_fix (τ : Nat → Nat → Int32) (q j : Nat) {i : Nat} (h : i < 15 ∨ 22 < i ∨ i = 17) : mLay τ q j i = τ i := by
  unfold mLay mLay2 mLay3
  repeat rw [gSt_ne _ _ _ _ (by omega)]
theorem mOpen_fix (τ : Nat → Nat → Int32) (q j : Nat) {i : Nat} (h : i < 15 ∨ 22 < i) : mOpen τ q j i = τ i := by
  unfold mOpen
  repeat rw [gSt_ne _ _ _ _ (by omega)]
theorem mPlace_fix (τ : Nat → Nat → Int32) (q c L : Nat) {i : Nat} (h : i < 15 ∨ 22 < i) : mPlace τ q c L i = τ i := by
  unfold mPlace
  split
  · rw [mLay_fix _ _ _ (by omega), mOpen_fix _ _ _ h]
  · rw [mLay_fix _ _ _ (by omega)]
theorem mPlace_L {τ : Nat → Nat → Int32} {q c L : Nat} (h : τ 17 0 = nI L) : mPlace τ q c L 17 0 = nI (mNewL τ q c L) := by
  unfold mPlace mNewL
  split
  · rw [mLay_fix _ _ _ (by omega), ← nI_1, ← h]; rfl
  · rw [mLay_fix _ _ _ (by omega), h]
def mFit (f : Int32) (τ : Nat → Nat → Int32) (q c : Nat) : Int32 := if f = 0 then 0 else if τ 3 c < τ 9 q then 0 else if τ 4 c < τ 10 q then 0 else 1
def mPk (σ : Nat → Nat → Int32) (ord : Nat → Nat) (set : Int32) (c : Nat) : Nat → (Nat → Nat → Int32) × Int32 × Int32
  | 0 => (gSt σ 17 0 0, 1, 0)
  | k + 1 => if mHas set (nI (ord k)) = 0 then mPk σ ord set c k else (mPlace (mPk σ ord set c k).1 (ord k) c ((mPk σ ord set c k).1 17 0).toNatClampNeg, mFit (mPk σ ord set c k).2.1 (mPk σ ord set c k).1 (ord k) c, (mPk σ ord set c k).2.2 + (mPk σ ord set c k).1 12 (ord k))
def mCnt (f : Nat → Int32) : Nat → Int32
  | 0 => 0
  | k + 1 => mCnt f k + (if f k = 0 then 0 else 1)
def mLn (τ : Nat → Nat → Int32) : Nat := (τ 17 0).toNatClampNeg
theorem mLn_eq {τ : Nat → Nat → Int32} {L : Nat} (h : τ 17 0 = nI L) (hL : L ≤ 8) : mLn τ = L := by unfold mLn; rw [h, nI_clamp (by omega)]
def mPackR (X : (Nat → Nat → Int32) × Int32 × Int32) (c : Nat) : Int32 := if X.2.1 = 0 then 0 else if X.1 5 c < mSum (X.1 19) (mLn X.1) then 0 else if X.1 7 c < X.2.2 then 0 else if 2 ≤ mCnt (X.1 22) (mLn X.1) then 0 else 1
theorem mPackR01 (X : (Nat → Nat → Int32) × Int32 × Int32) (c : Nat) : mPackR X c = 0 ∨ mPackR X c = 1 := by
  unfold mPackR
  split
  · exact Or.inl rfl
  · split
    · exact Or.inl rfl
    · split
      · exact Or.inl rfl
      · split
        · exact Or.inl rfl
        · exact Or.inr rfl


set_option maxHeartbeats 4000000 in
set_option maxRecDepth 100000 in
theorem c_Md_place (l : Launch) (D : va_G) (t : Nat → ClassId) (a : Nat → Nat) (σ : Nat → Nat → Int32) (q cc L : Nat) (hL : σ 17 0 = nI L) (hL7 : L < 8) (hq : q < 8) (hc : cc < 4) : gMv l D t y_Md_place b_Md_place 4 0 [.ref (a 0), .int (nI q), .int (nI cc)] (wMd t a σ) (wMd t a) (fun u => u = mPlace σ q cc L) := by
  intro A
  refine Met.ofW (cc := b_Md_place) (maxL := 4) (ret := none) (by decide) rfl ?_
  intro p e s m args below meth c s₁ B hml hv
  obtain ⟨rfl, hK, hP, hD⟩ := hv
  have hx := B.exec
  have hb := B.bytes
  have hr := B.returns
  have hts := atoms_spec (ws := .code y_Md_place b_Md_place 4 none :: gBig) B.pre
  have hown : s.vm.findClass R_Md = some m.cls := findClass_of_methodNamed B.named
  have hlocks := B.notSynchronized
  have hS : va_S A s.heap s.heap [] := va_S.rf
  have hl := lv_entry ([.ref (a 0), .int (nI q), .int (nI cc)]) (n := 4) (Nat.le_of_ble_eq_true rfl)
  rw [lg_entry_eq]
  generalize (lg_sl ([.ref (a 0), .int (nI q), .int (nI cc)]) ++ List.replicate (4 - (lg_sl ([.ref (a 0), .int (nI q), .int (nI cc)])).length) Slot.unset).toArray = ls at hl ⊢
  have hl : lv_has ls 4 [(0, .ref (a 0)), (1, .int (nI q)), (2, .int (nI cc))] := hl
  show gGov l p e s m below meth c D t A 0 [.ref (a 0), .int (nI q), .int (nI cc)] (wMd t a) (fun u => u = mPlace σ q cc L) s.heap [] (F0 m 0 ls [])
  have cut_204 : ∀ (j : Nat) (τ : Nat → Nat → Int32) (H : Heap) (locs : List Loc) (ls : Array Slot), j < 8 → mPlace σ q cc L = mLay3 τ q j → va_P D gCl (wMd t a τ) H → va_D A (wMd t a τ) → va_S A s.heap H locs → lv_has ls 4 [(0, .ref (a 0)), (1, .int (nI q)), (2, .int (nI cc)), (3, .int (nI j))] → gGov l p e s m below meth c D t A 0 [.ref (a 0), .int (nI q), .int (nI cc)] (wMd t a) (fun u => u = mPlace σ q cc L) H locs (F0 m 204 ls []) := by
    intro j τ H locs ls hj8 hτ hP hD hS hl
    refine lv_aload_n hx hb d_Md_place_204 rfl (lv_at hl 0 rfl) ?_
    refine va_get (D := D) (ci := 7) (v := .ref (a 22)) (C := R_Md) (T := F_Md) (N := 34) hx hb hts (fun w h => List.mem_cons_of_mem _ (i_Md w h)) hown hK.1 hP 0 (wMd_0 t a τ) rfl 22 (by decide) (hts (.fieldLink R_Md 62 "FlatBoxesModel" "breaks" "[Z") (List.mem_cons_of_mem _ (gIn k_688 (by decide +kernel)))) (fun _ h9 => h9) rfl d_Md_place_205 ?_
    refine lv_iload_n hx hb d_Md_place_208 rfl (lv_at hl 3 rfl) ?_
    refine lv_aload_n hx hb d_Md_place_209 rfl (lv_at hl 0 rfl) ?_
    refine va_get (D := D) (ci := 7) (v := .ref (a 22)) (C := R_Md) (T := F_Md) (N := 34) hx hb hts (fun w h => List.mem_cons_of_mem _ (i_Md w h)) hown hK.1 hP 0 (wMd_0 t a τ) rfl 22 (by decide) (hts (.fieldLink R_Md 62 "FlatBoxesModel" "breaks" "[Z") (List.mem_cons_of_mem _ (gIn k_688 (by decide +kernel)))) (fun _ h9 => h9) rfl d_Md_place_210 ?_
    refine lv_iload_n hx hb d_Md_place_213 rfl (lv_at hl 3 rfl) ?_
    refine g_zald hx hb hK.1 hP 18 1 (wMd_22 t a τ) rfl j (rfl) (by omega) (by decide) d_Md_place_214 ?_
    refine lv_if_ne (tgt := 227) hx hb d_Md_place_215 (by decide) (fun c_1 => ?_) (fun c_1 => ?_)
    · 
      refine lv_iconst (v := 1) hx hb d_Md_place_227 (by decide) ?_
      refine lv_goto (tgt := 232) hx hb d_Md_place_228 (by decide) ?_
      refine g_zast hx hb hK.1 hP hD hS 18 1 (wMd_22 t a τ) rfl (Or.inr rfl) j (rfl) (by omega) (by decide) (w' := wMd t a (gSt τ 22 j 1)) (sMd_22 t a τ j 1) d_Md_place_232 (fun H locs hP hD hS => ?_)
      exact W.vret hx hb hr (fun U hU hW => ⟨⟨gSt τ 22 j 1, rfl, by rw [hτ]; simp [mLay3, c_1], by rw [hU]; exact hP, hD⟩, hS.F hU⟩) hS.2.2 d_Md_place_233
    · 
      refine lv_aload_n hx hb d_Md_place_218 rfl (lv_at hl 0 rfl) ?_
      refine va_get (D := D) (ci := 7) (v := .ref (a 14)) (C := R_Md) (T := F_Md) (N := 34) hx hb hts (fun w h => List.mem_cons_of_mem _ (i_Md w h)) hown hK.1 hP 0 (wMd_0 t a τ) rfl 14 (by decide) (hts (.fieldLink R_Md 40 "FlatBoxesModel" "fragiles" "[Z") (List.mem_cons_of_mem _ (gIn k_680 (by decide +kernel)))) (fun _ h9 => h9) rfl d_Md_place_219 ?_
      refine lv_iload_n hx hb d_Md_place_222 rfl (lv_at hl 1 rfl) ?_
      refine g_zald hx hb hK.1 hP 11 1 (wMd_14 t a τ) rfl q (rfl) (by omega) (by decide) d_Md_place_223 ?_
      refine lv_if_eq (tgt := 231) hx hb d_Md_place_224 (by decide) (fun c_2 => ?_) (fun c_2 => ?_)
      · 
        refine lv_iconst (v := 0) hx hb d_Md_place_231 (by decide) ?_
        refine g_zast hx hb hK.1 hP hD hS 18 1 (wMd_22 t a τ) rfl (Or.inl rfl) j (rfl) (by omega) (by decide) (w' := wMd t a (gSt τ 22 j 0)) (sMd_22 t a τ j 0) d_Md_place_232 (fun H locs hP hD hS => ?_)
        exact W.vret hx hb hr (fun U hU hW => ⟨⟨gSt τ 22 j 0, rfl, by rw [hτ]; simp [mLay3, c_1, c_2], by rw [hU]; exact hP, hD⟩, hS.F hU⟩) hS.2.2 d_Md_place_233
      · 
        refine lv_iconst (v := 1) hx hb d_Md_place_227 (by decide) ?_
        refine lv_goto (tgt := 232) hx hb d_Md_place_228 (by decide) ?_
        refine g_zast hx hb hK.1 hP hD hS 18 1 (wMd_22 t a τ) rfl (Or.inr rfl) j (rfl) (by omega) (by decide) (w' := wMd t a (gSt τ 22 j 1)) (sMd_22 t a τ j 1) d_Md_place_232 (fun H locs hP hD hS => ?_)
        exact W.vret hx hb hr (fun U hU hW => ⟨⟨gSt τ 22 j 1, rfl, by rw [hτ]; simp [mLay3, c_1, c_2], by rw [hU]; exact hP, hD⟩, hS.F hU⟩) hS.2.2 d_Md_place_233
  have cut_168 : ∀ (j : Nat) (τ : Nat → Nat → Int32) (H : Heap) (locs : List Loc) (ls : Array Slot), j < 8 → mPlace σ q cc L = mLay2 τ q j → va_P D gCl (wMd t a τ) H → va_D A (wMd t a τ) → va_S A s.heap H locs → lv_has ls 4 [(0, .ref (a 0)), (1, .int (nI q)), (2, .int (nI cc)), (3, .int (nI j))] → gGov l p e s m below meth c D t A 0 [.ref (a 0), .int (nI q), .int (nI cc)] (wMd t a) (fun u => u = mPlace σ q cc L) H locs (F0 m 168 ls []) := by
    intro j τ H locs ls hj8 hτ hP hD hS hl
    refine lv_aload_n hx hb d_Md_place_168 rfl (lv_at hl 0 rfl) ?_
    refine va_get (D := D) (ci := 7) (v := .ref (a 21)) (C := R_Md) (T := F_Md) (N := 34) hx hb hts (fun w h => List.mem_cons_of_mem _ (i_Md w h)) hown hK.1 hP 0 (wMd_0 t a τ) rfl 21 (by decide) (hts (.fieldLink R_Md 59 "FlatBoxesModel" "firsts" "[I") (List.mem_cons_of_mem _ (gIn k_687 (by decide +kernel)))) (fun _ h9 => h9) rfl d_Md_place_169 ?_
    refine lv_iload_n hx hb d_Md_place_172 rfl (lv_at hl 3 rfl) ?_
    refine lv_aload_n hx hb d_Md_place_173 rfl (lv_at hl 0 rfl) ?_
    refine va_get (D := D) (ci := 7) (v := .ref (a 13)) (C := R_Md) (T := F_Md) (N := 34) hx hb hts (fun w h => List.mem_cons_of_mem _ (i_Md w h)) hown hK.1 hP 0 (wMd_0 t a τ) rfl 13 (by decide) (hts (.fieldLink R_Md 37 "FlatBoxesModel" "steps" "[I") (List.mem_cons_of_mem _ (gIn k_679 (by decide +kernel)))) (fun _ h9 => h9) rfl d_Md_place_174 ?_
    refine lv_iload_n hx hb d_Md_place_177 rfl (lv_at hl 1 rfl) ?_
    refine g_iald hx hb hK.1 hP 10 0 (wMd_13 t a τ) rfl q (rfl) (by omega) (by decide) d_Md_place_178 ?_
    refine lv_aload_n hx hb d_Md_place_179 rfl (lv_at hl 0 rfl) ?_
    refine va_get (D := D) (ci := 7) (v := .ref (a 21)) (C := R_Md) (T := F_Md) (N := 34) hx hb hts (fun w h => List.mem_cons_of_mem _ (i_Md w h)) hown hK.1 hP 0 (wMd_0 t a τ) rfl 21 (by decide) (hts (.fieldLink R_Md 59 "FlatBoxesModel" "firsts" "[I") (List.mem_cons_of_mem _ (gIn k_687 (by decide +kernel)))) (fun _ h9 => h9) rfl d_Md_place_180 ?_
    refine lv_iload_n hx hb d_Md_place_183 rfl (lv_at hl 3 rfl) ?_
    refine g_iald hx hb hK.1 hP 17 0 (wMd_21 t a τ) rfl j (rfl) (by omega) (by decide) d_Md_place_184 ?_
    refine lv_icmp_ge (tgt := 197) hx hb d_Md_place_185 (by decide) (fun c_3 => ?_) (fun c_3 => ?_)
    · 
      refine lv_aload_n hx hb d_Md_place_197 rfl (lv_at hl 0 rfl) ?_
      refine va_get (D := D) (ci := 7) (v := .ref (a 21)) (C := R_Md) (T := F_Md) (N := 34) hx hb hts (fun w h => List.mem_cons_of_mem _ (i_Md w h)) hown hK.1 hP 0 (wMd_0 t a τ) rfl 21 (by decide) (hts (.fieldLink R_Md 59 "FlatBoxesModel" "firsts" "[I") (List.mem_cons_of_mem _ (gIn k_687 (by decide +kernel)))) (fun _ h9 => h9) rfl d_Md_place_198 ?_
      refine lv_iload_n hx hb d_Md_place_201 rfl (lv_at hl 3 rfl) ?_
      refine g_iald hx hb hK.1 hP 17 0 (wMd_21 t a τ) rfl j (rfl) (by omega) (by decide) d_Md_place_202 ?_
      refine g_iast hx hb hK.1 hP hD hS 17 0 (wMd_21 t a τ) rfl j (rfl) (by omega) (by decide) (w' := wMd t a (gSt τ 21 j (τ 21 j))) (sMd_21 t a τ j (τ 21 j)) d_Md_place_203 (fun H locs hP hD hS => ?_)
      exact cut_204 j (gSt τ 21 j (τ 21 j)) _ _ _ (by omega) (by rw [hτ]; simp [mLay2, c_3]) hP hD hS (lv_sub hl [0, 1, 2, 3] rfl)
    · 
      refine lv_aload_n hx hb d_Md_place_188 rfl (lv_at hl 0 rfl) ?_
      refine va_get (D := D) (ci := 7) (v := .ref (a 13)) (C := R_Md) (T := F_Md) (N := 34) hx hb hts (fun w h => List.mem_cons_of_mem _ (i_Md w h)) hown hK.1 hP 0 (wMd_0 t a τ) rfl 13 (by decide) (hts (.fieldLink R_Md 37 "FlatBoxesModel" "steps" "[I") (List.mem_cons_of_mem _ (gIn k_679 (by decide +kernel)))) (fun _ h9 => h9) rfl d_Md_place_189 ?_
      refine lv_iload_n hx hb d_Md_place_192 rfl (lv_at hl 1 rfl) ?_
      refine g_iald hx hb hK.1 hP 10 0 (wMd_13 t a τ) rfl q (rfl) (by omega) (by decide) d_Md_place_193 ?_
      refine lv_goto (tgt := 203) hx hb d_Md_place_194 (by decide) ?_
      refine g_iast hx hb hK.1 hP hD hS 17 0 (wMd_21 t a τ) rfl j (rfl) (by omega) (by decide) (w' := wMd t a (gSt τ 21 j (τ 13 q))) (sMd_21 t a τ j (τ 13 q)) d_Md_place_203 (fun H locs hP hD hS => ?_)
      exact cut_204 j (gSt τ 21 j (τ 13 q)) _ _ _ (by omega) (by rw [hτ]; simp [mLay2, c_3]) hP hD hS (lv_sub hl [0, 1, 2, 3] rfl)
  have cut_110 : ∀ (j : Nat) (τ : Nat → Nat → Int32) (H : Heap) (locs : List Loc) (ls : Array Slot), j < 8 → mPlace σ q cc L = mLay τ q j → va_P D gCl (wMd t a τ) H → va_D A (wMd t a τ) → va_S A s.heap H locs → lv_has ls 4 [(0, .ref (a 0)), (1, .int (nI q)), (2, .int (nI cc)), (3, .int (nI j))] → gGov l p e s m below meth c D t A 0 [.ref (a 0), .int (nI q), .int (nI cc)] (wMd t a) (fun u => u = mPlace σ q cc L) H locs (F0 m 110 ls []) := by
    intro j τ H locs ls hj8 hτ hP hD hS hl
    refine lv_aload_n hx hb d_Md_place_110 rfl (lv_at hl 0 rfl) ?_
    refine va_get (D := D) (ci := 7) (v := .ref (a 15)) (C := R_Md) (T := F_Md) (N := 34) hx hb hts (fun w h => List.mem_cons_of_mem _ (i_Md w h)) hown hK.1 hP 0 (wMd_0 t a τ) rfl 15 (by decide) (hts (.fieldLink R_Md 44 "FlatBoxesModel" "layerOf" "[I") (List.mem_cons_of_mem _ (gIn k_681 (by decide +kernel)))) (fun _ h9 => h9) rfl d_Md_place_111 ?_
    refine lv_iload_n hx hb d_Md_place_114 rfl (lv_at hl 1 rfl) ?_
    refine lv_iload_n hx hb d_Md_place_115 rfl (lv_at hl 3 rfl) ?_
    refine g_iast hx hb hK.1 hP hD hS 12 0 (wMd_15 t a τ) rfl q (rfl) (by omega) (by decide) (w' := wMd t a (gSt τ 15 q (nI j))) (sMd_15 t a τ q (nI j)) d_Md_place_116 (fun H locs hP hD hS => ?_)
    refine lv_aload_n hx hb d_Md_place_117 rfl (lv_at hl 0 rfl) ?_
    refine va_get (D := D) (ci := 7) (v := .ref (a 16)) (C := R_Md) (T := F_Md) (N := 34) hx hb hts (fun w h => List.mem_cons_of_mem _ (i_Md w h)) hown hK.1 hP 0 (wMd_0 t a (gSt τ 15 q (nI j))) rfl 16 (by decide) (hts (.fieldLink R_Md 47 "FlatBoxesModel" "begins" "[I") (List.mem_cons_of_mem _ (gIn k_682 (by decide +kernel)))) (fun _ h9 => h9) rfl d_Md_place_118 ?_
    refine lv_iload_n hx hb d_Md_place_121 rfl (lv_at hl 1 rfl) ?_
    refine lv_aload_n hx hb d_Md_place_122 rfl (lv_at hl 0 rfl) ?_
    refine va_get (D := D) (ci := 7) (v := .ref (a 18)) (C := R_Md) (T := F_Md) (N := 34) hx hb hts (fun w h => List.mem_cons_of_mem _ (i_Md w h)) hown hK.1 hP 0 (wMd_0 t a (gSt τ 15 q (nI j))) rfl 18 (by decide) (hts (.fieldLink R_Md 50 "FlatBoxesModel" "used" "[I") (List.mem_cons_of_mem _ (gIn k_684 (by decide +kernel)))) (fun _ h9 => h9) rfl d_Md_place_123 ?_
    refine lv_iload_n hx hb d_Md_place_126 rfl (lv_at hl 3 rfl) ?_
    refine g_iald hx hb hK.1 hP 14 0 (wMd_18 t a (gSt τ 15 q (nI j))) rfl j (rfl) (by omega) (by decide) d_Md_place_127 ?_
    refine lv_aload_n hx hb d_Md_place_128 rfl (lv_at hl 0 rfl) ?_
    refine va_get (D := D) (ci := 7) (v := .int ((gSt τ 15 q (nI j)) 1 0)) (C := R_Md) (T := F_Md) (N := 34) hx hb hts (fun w h => List.mem_cons_of_mem _ (i_Md w h)) hown hK.1 hP 0 (wMd_0 t a (gSt τ 15 q (nI j))) rfl 1 (by decide) (hts (.fieldLink R_Md 89 "FlatBoxesModel" "gap" "I") (List.mem_cons_of_mem _ (gIn k_667 (by decide +kernel)))) (fun _ h9 => h9) rfl d_Md_place_129 ?_
    refine lv_iadd hx hb d_Md_place_132 ?_
    refine g_iast hx hb hK.1 hP hD hS 13 0 (wMd_16 t a (gSt τ 15 q (nI j))) rfl q (rfl) (by omega) (by decide) (w' := wMd t a (gSt (gSt τ 15 q (nI j)) 16 q (((gSt τ 15 q (nI j)) 18 j) + ((gSt τ 15 q (nI j)) 1 0)))) (sMd_16 t a (gSt τ 15 q (nI j)) q (((gSt τ 15 q (nI j)) 18 j) + ((gSt τ 15 q (nI j)) 1 0))) d_Md_place_133 (fun H locs hP hD hS => ?_)
    refine lv_aload_n hx hb d_Md_place_134 rfl (lv_at hl 0 rfl) ?_
    refine va_get (D := D) (ci := 7) (v := .ref (a 18)) (C := R_Md) (T := F_Md) (N := 34) hx hb hts (fun w h => List.mem_cons_of_mem _ (i_Md w h)) hown hK.1 hP 0 (wMd_0 t a (gSt (gSt τ 15 q (nI j)) 16 q (((gSt τ 15 q (nI j)) 18 j) + ((gSt τ 15 q (nI j)) 1 0)))) rfl 18 (by decide) (hts (.fieldLink R_Md 50 "FlatBoxesModel" "used" "[I") (List.mem_cons_of_mem _ (gIn k_684 (by decide +kernel)))) (fun _ h9 => h9) rfl d_Md_place_135 ?_
    refine lv_iload_n hx hb d_Md_place_138 rfl (lv_at hl 3 rfl) ?_
    refine lv_aload_n hx hb d_Md_place_139 rfl (lv_at hl 0 rfl) ?_
    refine va_get (D := D) (ci := 7) (v := .ref (a 16)) (C := R_Md) (T := F_Md) (N := 34) hx hb hts (fun w h => List.mem_cons_of_mem _ (i_Md w h)) hown hK.1 hP 0 (wMd_0 t a (gSt (gSt τ 15 q (nI j)) 16 q (((gSt τ 15 q (nI j)) 18 j) + ((gSt τ 15 q (nI j)) 1 0)))) rfl 16 (by decide) (hts (.fieldLink R_Md 47 "FlatBoxesModel" "begins" "[I") (List.mem_cons_of_mem _ (gIn k_682 (by decide +kernel)))) (fun _ h9 => h9) rfl d_Md_place_140 ?_
    refine lv_iload_n hx hb d_Md_place_143 rfl (lv_at hl 1 rfl) ?_
    refine g_iald hx hb hK.1 hP 13 0 (wMd_16 t a (gSt (gSt τ 15 q (nI j)) 16 q (((gSt τ 15 q (nI j)) 18 j) + ((gSt τ 15 q (nI j)) 1 0)))) rfl q (rfl) (by omega) (by decide) d_Md_place_144 ?_
    refine lv_aload_n hx hb d_Md_place_145 rfl (lv_at hl 0 rfl) ?_
    refine va_get (D := D) (ci := 7) (v := .ref (a 9)) (C := R_Md) (T := F_Md) (N := 34) hx hb hts (fun w h => List.mem_cons_of_mem _ (i_Md w h)) hown hK.1 hP 0 (wMd_0 t a (gSt (gSt τ 15 q (nI j)) 16 q (((gSt τ 15 q (nI j)) 18 j) + ((gSt τ 15 q (nI j)) 1 0)))) rfl 9 (by decide) (hts (.fieldLink R_Md 25 "FlatBoxesModel" "wides" "[I") (List.mem_cons_of_mem _ (gIn k_675 (by decide +kernel)))) (fun _ h9 => h9) rfl d_Md_place_146 ?_
    refine lv_iload_n hx hb d_Md_place_149 rfl (lv_at hl 1 rfl) ?_
    refine g_iald hx hb hK.1 hP 6 0 (wMd_9 t a (gSt (gSt τ 15 q (nI j)) 16 q (((gSt τ 15 q (nI j)) 18 j) + ((gSt τ 15 q (nI j)) 1 0)))) rfl q (rfl) (by omega) (by decide) d_Md_place_150 ?_
    refine lv_iadd hx hb d_Md_place_151 ?_
    refine g_iast hx hb hK.1 hP hD hS 14 0 (wMd_18 t a (gSt (gSt τ 15 q (nI j)) 16 q (((gSt τ 15 q (nI j)) 18 j) + ((gSt τ 15 q (nI j)) 1 0)))) rfl j (rfl) (by omega) (by decide) (w' := wMd t a (gSt (gSt (gSt τ 15 q (nI j)) 16 q (((gSt τ 15 q (nI j)) 18 j) + ((gSt τ 15 q (nI j)) 1 0))) 18 j (((gSt (gSt τ 15 q (nI j)) 16 q (((gSt τ 15 q (nI j)) 18 j) + ((gSt τ 15 q (nI j)) 1 0))) 16 q) + ((gSt (gSt τ 15 q (nI j)) 16 q (((gSt τ 15 q (nI j)) 18 j) + ((gSt τ 15 q (nI j)) 1 0))) 9 q)))) (sMd_18 t a (gSt (gSt τ 15 q (nI j)) 16 q (((gSt τ 15 q (nI j)) 18 j) + ((gSt τ 15 q (nI j)) 1 0))) j (((gSt (gSt τ 15 q (nI j)) 16 q (((gSt τ 15 q (nI j)) 18 j) + ((gSt τ 15 q (nI j)) 1 0))) 16 q) + ((gSt (gSt τ 15 q (nI j)) 16 q (((gSt τ 15 q (nI j)) 18 j) + ((gSt τ 15 q (nI j)) 1 0))) 9 q))) d_Md_place_152 (fun H locs hP hD hS => ?_)
    refine lv_aload_n hx hb d_Md_place_153 rfl (lv_at hl 0 rfl) ?_
    refine va_get (D := D) (ci := 7) (v := .ref (a 20)) (C := R_Md) (T := F_Md) (N := 34) hx hb hts (fun w h => List.mem_cons_of_mem _ (i_Md w h)) hown hK.1 hP 0 (wMd_0 t a (gSt (gSt (gSt τ 15 q (nI j)) 16 q (((gSt τ 15 q (nI j)) 18 j) + ((gSt τ 15 q (nI j)) 1 0))) 18 j (((gSt (gSt τ 15 q (nI j)) 16 q (((gSt τ 15 q (nI j)) 18 j) + ((gSt τ 15 q (nI j)) 1 0))) 16 q) + ((gSt (gSt τ 15 q (nI j)) 16 q (((gSt τ 15 q (nI j)) 18 j) + ((gSt τ 15 q (nI j)) 1 0))) 9 q)))) rfl 20 (by decide) (hts (.fieldLink R_Md 56 "FlatBoxesModel" "weights" "[I") (List.mem_cons_of_mem _ (gIn k_686 (by decide +kernel)))) (fun _ h9 => h9) rfl d_Md_place_154 ?_
    refine lv_iload_n hx hb d_Md_place_157 rfl (lv_at hl 3 rfl) ?_
    refine lv_dup2_11 hx hb d_Md_place_158 rfl rfl ?_
    refine g_iald hx hb hK.1 hP 16 0 (wMd_20 t a (gSt (gSt (gSt τ 15 q (nI j)) 16 q (((gSt τ 15 q (nI j)) 18 j) + ((gSt τ 15 q (nI j)) 1 0))) 18 j (((gSt (gSt τ 15 q (nI j)) 16 q (((gSt τ 15 q (nI j)) 18 j) + ((gSt τ 15 q (nI j)) 1 0))) 16 q) + ((gSt (gSt τ 15 q (nI j)) 16 q (((gSt τ 15 q (nI j)) 18 j) + ((gSt τ 15 q (nI j)) 1 0))) 9 q)))) rfl j (rfl) (by omega) (by decide) d_Md_place_159 ?_
    refine lv_aload_n hx hb d_Md_place_160 rfl (lv_at hl 0 rfl) ?_
    refine va_get (D := D) (ci := 7) (v := .ref (a 12)) (C := R_Md) (T := F_Md) (N := 34) hx hb hts (fun w h => List.mem_cons_of_mem _ (i_Md w h)) hown hK.1 hP 0 (wMd_0 t a (gSt (gSt (gSt τ 15 q (nI j)) 16 q (((gSt τ 15 q (nI j)) 18 j) + ((gSt τ 15 q (nI j)) 1 0))) 18 j (((gSt (gSt τ 15 q (nI j)) 16 q (((gSt τ 15 q (nI j)) 18 j) + ((gSt τ 15 q (nI j)) 1 0))) 16 q) + ((gSt (gSt τ 15 q (nI j)) 16 q (((gSt τ 15 q (nI j)) 18 j) + ((gSt τ 15 q (nI j)) 1 0))) 9 q)))) rfl 12 (by decide) (hts (.fieldLink R_Md 34 "FlatBoxesModel" "grams" "[I") (List.mem_cons_of_mem _ (gIn k_678 (by decide +kernel)))) (fun _ h9 => h9) rfl d_Md_place_161 ?_
    refine lv_iload_n hx hb d_Md_place_164 rfl (lv_at hl 1 rfl) ?_
    refine g_iald hx hb hK.1 hP 9 0 (wMd_12 t a (gSt (gSt (gSt τ 15 q (nI j)) 16 q (((gSt τ 15 q (nI j)) 18 j) + ((gSt τ 15 q (nI j)) 1 0))) 18 j (((gSt (gSt τ 15 q (nI j)) 16 q (((gSt τ 15 q (nI j)) 18 j) + ((gSt τ 15 q (nI j)) 1 0))) 16 q) + ((gSt (gSt τ 15 q (nI j)) 16 q (((gSt τ 15 q (nI j)) 18 j) + ((gSt τ 15 q (nI j)) 1 0))) 9 q)))) rfl q (rfl) (by omega) (by decide) d_Md_place_165 ?_
    refine lv_iadd hx hb d_Md_place_166 ?_
    refine g_iast hx hb hK.1 hP hD hS 16 0 (wMd_20 t a (gSt (gSt (gSt τ 15 q (nI j)) 16 q (((gSt τ 15 q (nI j)) 18 j) + ((gSt τ 15 q (nI j)) 1 0))) 18 j (((gSt (gSt τ 15 q (nI j)) 16 q (((gSt τ 15 q (nI j)) 18 j) + ((gSt τ 15 q (nI j)) 1 0))) 16 q) + ((gSt (gSt τ 15 q (nI j)) 16 q (((gSt τ 15 q (nI j)) 18 j) + ((gSt τ 15 q (nI j)) 1 0))) 9 q)))) rfl j (rfl) (by omega) (by decide) (w' := wMd t a (gSt (gSt (gSt (gSt τ 15 q (nI j)) 16 q (((gSt τ 15 q (nI j)) 18 j) + ((gSt τ 15 q (nI j)) 1 0))) 18 j (((gSt (gSt τ 15 q (nI j)) 16 q (((gSt τ 15 q (nI j)) 18 j) + ((gSt τ 15 q (nI j)) 1 0))) 16 q) + ((gSt (gSt τ 15 q (nI j)) 16 q (((gSt τ 15 q (nI j)) 18 j) + ((gSt τ 15 q (nI j)) 1 0))) 9 q))) 20 j (((gSt (gSt (gSt τ 15 q (nI j)) 16 q (((gSt τ 15 q (nI j)) 18 j) + ((gSt τ 15 q (nI j)) 1 0))) 18 j (((gSt (gSt τ 15 q (nI j)) 16 q (((gSt τ 15 q (nI j)) 18 j) + ((gSt τ 15 q (nI j)) 1 0))) 16 q) + ((gSt (gSt τ 15 q (nI j)) 16 q (((gSt τ 15 q (nI j)) 18 j) + ((gSt τ 15 q (nI j)) 1 0))) 9 q))) 20 j) + ((gSt (gSt (gSt τ 15 q (nI j)) 16 q (((gSt τ 15 q (nI j)) 18 j) + ((gSt τ 15 q (nI j)) 1 0))) 18 j (((gSt (gSt τ 15 q (nI j)) 16 q (((gSt τ 15 q (nI j)) 18 j) + ((gSt τ 15 q (nI j)) 1 0))) 16 q) + ((gSt (gSt τ 15 q (nI j)) 16 q (((gSt τ 15 q (nI j)) 18 j) + ((gSt τ 15 q (nI j)) 1 0))) 9 q))) 12 q)))) (sMd_20 t a (gSt (gSt (gSt τ 15 q (nI j)) 16 q (((gSt τ 15 q (nI j)) 18 j) + ((gSt τ 15 q (nI j)) 1 0))) 18 j (((gSt (gSt τ 15 q (nI j)) 16 q (((gSt τ 15 q (nI j)) 18 j) + ((gSt τ 15 q (nI j)) 1 0))) 16 q) + ((gSt (gSt τ 15 q (nI j)) 16 q (((gSt τ 15 q (nI j)) 18 j) + ((gSt τ 15 q (nI j)) 1 0))) 9 q))) j (((gSt (gSt (gSt τ 15 q (nI j)) 16 q (((gSt τ 15 q (nI j)) 18 j) + ((gSt τ 15 q (nI j)) 1 0))) 18 j (((gSt (gSt τ 15 q (nI j)) 16 q (((gSt τ 15 q (nI j)) 18 j) + ((gSt τ 15 q (nI j)) 1 0))) 16 q) + ((gSt (gSt τ 15 q (nI j)) 16 q (((gSt τ 15 q (nI j)) 18 j) + ((gSt τ 15 q (nI j)) 1 0))) 9 q))) 20 j) + ((gSt (gSt (gSt τ 15 q (nI j)) 16 q (((gSt τ 15 q (nI j)) 18 j) + ((gSt τ 15 q (nI j)) 1 0))) 18 j (((gSt (gSt τ 15 q (nI j)) 16 q (((gSt τ 15 q (nI j)) 18 j) + ((gSt τ 15 q (nI j)) 1 0))) 16 q) + ((gSt (gSt τ 15 q (nI j)) 16 q (((gSt τ 15 q (nI j)) 18 j) + ((gSt τ 15 q (nI j)) 1 0))) 9 q))) 12 q))) d_Md_place_167 (fun H locs hP hD hS => ?_)
    exact cut_168 j (gSt (gSt (gSt (gSt τ 15 q (nI j)) 16 q (((gSt τ 15 q (nI j)) 18 j) + ((gSt τ 15 q (nI j)) 1 0))) 18 j (((gSt (gSt τ 15 q (nI j)) 16 q (((gSt τ 15 q (nI j)) 18 j) + ((gSt τ 15 q (nI j)) 1 0))) 16 q) + ((gSt (gSt τ 15 q (nI j)) 16 q (((gSt τ 15 q (nI j)) 18 j) + ((gSt τ 15 q (nI j)) 1 0))) 9 q))) 20 j (((gSt (gSt (gSt τ 15 q (nI j)) 16 q (((gSt τ 15 q (nI j)) 18 j) + ((gSt τ 15 q (nI j)) 1 0))) 18 j (((gSt (gSt τ 15 q (nI j)) 16 q (((gSt τ 15 q (nI j)) 18 j) + ((gSt τ 15 q (nI j)) 1 0))) 16 q) + ((gSt (gSt τ 15 q (nI j)) 16 q (((gSt τ 15 q (nI j)) 18 j) + ((gSt τ 15 q (nI j)) 1 0))) 9 q))) 20 j) + ((gSt (gSt (gSt τ 15 q (nI j)) 16 q (((gSt τ 15 q (nI j)) 18 j) + ((gSt τ 15 q (nI j)) 1 0))) 18 j (((gSt (gSt τ 15 q (nI j)) 16 q (((gSt τ 15 q (nI j)) 18 j) + ((gSt τ 15 q (nI j)) 1 0))) 16 q) + ((gSt (gSt τ 15 q (nI j)) 16 q (((gSt τ 15 q (nI j)) 18 j) + ((gSt τ 15 q (nI j)) 1 0))) 9 q))) 12 q))) _ _ _ (by omega) (by rw [hτ]; rfl) hP hD hS (lv_sub hl [0, 1, 2, 3] rfl)
  have cut_43 : ∀ (j : Nat) (H : Heap) (locs : List Loc) (ls : Array Slot), j ≤ L → mRm σ q cc L = j → va_P D gCl (wMd t a σ) H → va_D A (wMd t a σ) → va_S A s.heap H locs → lv_has ls 4 [(0, .ref (a 0)), (1, .int (nI q)), (2, .int (nI cc)), (3, .int (nI j))] → gGov l p e s m below meth c D t A 0 [.ref (a 0), .int (nI q), .int (nI cc)] (wMd t a) (fun u => u = mPlace σ q cc L) H locs (F0 m 43 ls []) := by
    intro j H locs ls hjL hj hP hD hS hl
    refine lv_iload_n hx hb d_Md_place_43 rfl (lv_at hl 3 rfl) ?_
    refine lv_aload_n hx hb d_Md_place_44 rfl (lv_at hl 0 rfl) ?_
    refine va_get (D := D) (ci := 7) (v := .int (σ 17 0)) (C := R_Md) (T := F_Md) (N := 34) hx hb hts (fun w h => List.mem_cons_of_mem _ (i_Md w h)) hown hK.1 hP 0 (wMd_0 t a σ) rfl 17 (by decide) (hts (.fieldLink R_Md 116 "FlatBoxesModel" "layers" "I") (List.mem_cons_of_mem _ (gIn k_683 (by decide +kernel)))) (fun _ h9 => h9) rfl d_Md_place_45 ?_
    refine lv_topi (fun v_4 e_4 => ?_)
    obtain rfl : v_4 = nI L := e_4.trans hL
    refine lv_icmp_ne (tgt := 110) hx hb d_Md_place_48 (by decide) (fun c_5 => ?_) (fun c_5 => ?_)
    · 
      have h_5 : ¬ j = L := fun q9 => c_5 ((nI_eq (a := j) (b := L) (by omega) (by omega)).mpr q9)
      exact cut_110 j σ _ _ _ (by omega) (by unfold mPlace; rw [hj, if_neg h_5]) hP hD hS (lv_sub hl [0, 1, 2, 3] rfl)
    · 
      have h_5 : j = L := (nI_eq (a := j) (b := L) (by omega) (by omega)).mp c_5
      refine lv_aload_n hx hb d_Md_place_51 rfl (lv_at hl 0 rfl) ?_
      refine va_get (D := D) (ci := 7) (v := .ref (a 18)) (C := R_Md) (T := F_Md) (N := 34) hx hb hts (fun w h => List.mem_cons_of_mem _ (i_Md w h)) hown hK.1 hP 0 (wMd_0 t a σ) rfl 18 (by decide) (hts (.fieldLink R_Md 50 "FlatBoxesModel" "used" "[I") (List.mem_cons_of_mem _ (gIn k_684 (by decide +kernel)))) (fun _ h9 => h9) rfl d_Md_place_52 ?_
      refine lv_iload_n hx hb d_Md_place_55 rfl (lv_at hl 3 rfl) ?_
      refine lv_aload_n hx hb d_Md_place_56 rfl (lv_at hl 0 rfl) ?_
      refine va_get (D := D) (ci := 7) (v := .int (σ 1 0)) (C := R_Md) (T := F_Md) (N := 34) hx hb hts (fun w h => List.mem_cons_of_mem _ (i_Md w h)) hown hK.1 hP 0 (wMd_0 t a σ) rfl 1 (by decide) (hts (.fieldLink R_Md 89 "FlatBoxesModel" "gap" "I") (List.mem_cons_of_mem _ (gIn k_667 (by decide +kernel)))) (fun _ h9 => h9) rfl d_Md_place_57 ?_
      refine lv_ineg hx hb d_Md_place_60 ?_
      refine g_iast hx hb hK.1 hP hD hS 14 0 (wMd_18 t a σ) rfl j (rfl) (by omega) (by decide) (w' := wMd t a (gSt σ 18 j (-(σ 1 0)))) (sMd_18 t a σ j (-(σ 1 0))) d_Md_place_61 (fun H locs hP hD hS => ?_)
      refine lv_aload_n hx hb d_Md_place_62 rfl (lv_at hl 0 rfl) ?_
      refine va_get (D := D) (ci := 7) (v := .ref (a 19)) (C := R_Md) (T := F_Md) (N := 34) hx hb hts (fun w h => List.mem_cons_of_mem _ (i_Md w h)) hown hK.1 hP 0 (wMd_0 t a (gSt σ 18 j (-(σ 1 0)))) rfl 19 (by decide) (hts (.fieldLink R_Md 53 "FlatBoxesModel" "highs" "[I") (List.mem_cons_of_mem _ (gIn k_685 (by decide +kernel)))) (fun _ h9 => h9) rfl d_Md_place_63 ?_
      refine lv_iload_n hx hb d_Md_place_66 rfl (lv_at hl 3 rfl) ?_
      refine lv_aload_n hx hb d_Md_place_67 rfl (lv_at hl 0 rfl) ?_
      refine va_get (D := D) (ci := 7) (v := .ref (a 11)) (C := R_Md) (T := F_Md) (N := 34) hx hb hts (fun w h => List.mem_cons_of_mem _ (i_Md w h)) hown hK.1 hP 0 (wMd_0 t a (gSt σ 18 j (-(σ 1 0)))) rfl 11 (by decide) (hts (.fieldLink R_Md 31 "FlatBoxesModel" "thicks" "[I") (List.mem_cons_of_mem _ (gIn k_677 (by decide +kernel)))) (fun _ h9 => h9) rfl d_Md_place_68 ?_
      refine lv_iload_n hx hb d_Md_place_71 rfl (lv_at hl 1 rfl) ?_
      refine g_iald hx hb hK.1 hP 8 0 (wMd_11 t a (gSt σ 18 j (-(σ 1 0)))) rfl q (rfl) (by omega) (by decide) d_Md_place_72 ?_
      refine g_iast hx hb hK.1 hP hD hS 15 0 (wMd_19 t a (gSt σ 18 j (-(σ 1 0)))) rfl j (rfl) (by omega) (by decide) (w' := wMd t a (gSt (gSt σ 18 j (-(σ 1 0))) 19 j ((gSt σ 18 j (-(σ 1 0))) 11 q))) (sMd_19 t a (gSt σ 18 j (-(σ 1 0))) j ((gSt σ 18 j (-(σ 1 0))) 11 q)) d_Md_place_73 (fun H locs hP hD hS => ?_)
      refine lv_aload_n hx hb d_Md_place_74 rfl (lv_at hl 0 rfl) ?_
      refine va_get (D := D) (ci := 7) (v := .ref (a 20)) (C := R_Md) (T := F_Md) (N := 34) hx hb hts (fun w h => List.mem_cons_of_mem _ (i_Md w h)) hown hK.1 hP 0 (wMd_0 t a (gSt (gSt σ 18 j (-(σ 1 0))) 19 j ((gSt σ 18 j (-(σ 1 0))) 11 q))) rfl 20 (by decide) (hts (.fieldLink R_Md 56 "FlatBoxesModel" "weights" "[I") (List.mem_cons_of_mem _ (gIn k_686 (by decide +kernel)))) (fun _ h9 => h9) rfl d_Md_place_75 ?_
      refine lv_iload_n hx hb d_Md_place_78 rfl (lv_at hl 3 rfl) ?_
      refine lv_iconst (v := 0) hx hb d_Md_place_79 (by decide) ?_
      refine g_iast hx hb hK.1 hP hD hS 16 0 (wMd_20 t a (gSt (gSt σ 18 j (-(σ 1 0))) 19 j ((gSt σ 18 j (-(σ 1 0))) 11 q))) rfl j (rfl) (by omega) (by decide) (w' := wMd t a (gSt (gSt (gSt σ 18 j (-(σ 1 0))) 19 j ((gSt σ 18 j (-(σ 1 0))) 11 q)) 20 j 0)) (sMd_20 t a (gSt (gSt σ 18 j (-(σ 1 0))) 19 j ((gSt σ 18 j (-(σ 1 0))) 11 q)) j 0) d_Md_place_80 (fun H locs hP hD hS => ?_)
      refine lv_aload_n hx hb d_Md_place_81 rfl (lv_at hl 0 rfl) ?_
      refine va_get (D := D) (ci := 7) (v := .ref (a 21)) (C := R_Md) (T := F_Md) (N := 34) hx hb hts (fun w h => List.mem_cons_of_mem _ (i_Md w h)) hown hK.1 hP 0 (wMd_0 t a (gSt (gSt (gSt σ 18 j (-(σ 1 0))) 19 j ((gSt σ 18 j (-(σ 1 0))) 11 q)) 20 j 0)) rfl 21 (by decide) (hts (.fieldLink R_Md 59 "FlatBoxesModel" "firsts" "[I") (List.mem_cons_of_mem _ (gIn k_687 (by decide +kernel)))) (fun _ h9 => h9) rfl d_Md_place_82 ?_
      refine lv_iload_n hx hb d_Md_place_85 rfl (lv_at hl 3 rfl) ?_
      refine lv_aload_n hx hb d_Md_place_86 rfl (lv_at hl 0 rfl) ?_
      refine va_get (D := D) (ci := 7) (v := .ref (a 13)) (C := R_Md) (T := F_Md) (N := 34) hx hb hts (fun w h => List.mem_cons_of_mem _ (i_Md w h)) hown hK.1 hP 0 (wMd_0 t a (gSt (gSt (gSt σ 18 j (-(σ 1 0))) 19 j ((gSt σ 18 j (-(σ 1 0))) 11 q)) 20 j 0)) rfl 13 (by decide) (hts (.fieldLink R_Md 37 "FlatBoxesModel" "steps" "[I") (List.mem_cons_of_mem _ (gIn k_679 (by decide +kernel)))) (fun _ h9 => h9) rfl d_Md_place_87 ?_
      refine lv_iload_n hx hb d_Md_place_90 rfl (lv_at hl 1 rfl) ?_
      refine g_iald hx hb hK.1 hP 10 0 (wMd_13 t a (gSt (gSt (gSt σ 18 j (-(σ 1 0))) 19 j ((gSt σ 18 j (-(σ 1 0))) 11 q)) 20 j 0)) rfl q (rfl) (by omega) (by decide) d_Md_place_91 ?_
      refine g_iast hx hb hK.1 hP hD hS 17 0 (wMd_21 t a (gSt (gSt (gSt σ 18 j (-(σ 1 0))) 19 j ((gSt σ 18 j (-(σ 1 0))) 11 q)) 20 j 0)) rfl j (rfl) (by omega) (by decide) (w' := wMd t a (gSt (gSt (gSt (gSt σ 18 j (-(σ 1 0))) 19 j ((gSt σ 18 j (-(σ 1 0))) 11 q)) 20 j 0) 21 j ((gSt (gSt (gSt σ 18 j (-(σ 1 0))) 19 j ((gSt σ 18 j (-(σ 1 0))) 11 q)) 20 j 0) 13 q))) (sMd_21 t a (gSt (gSt (gSt σ 18 j (-(σ 1 0))) 19 j ((gSt σ 18 j (-(σ 1 0))) 11 q)) 20 j 0) j ((gSt (gSt (gSt σ 18 j (-(σ 1 0))) 19 j ((gSt σ 18 j (-(σ 1 0))) 11 q)) 20 j 0) 13 q)) d_Md_place_92 (fun H locs hP hD hS => ?_)
      refine lv_aload_n hx hb d_Md_place_93 rfl (lv_at hl 0 rfl) ?_
      refine va_get (D := D) (ci := 7) (v := .ref (a 22)) (C := R_Md) (T := F_Md) (N := 34) hx hb hts (fun w h => List.mem_cons_of_mem _ (i_Md w h)) hown hK.1 hP 0 (wMd_0 t a (gSt (gSt (gSt (gSt σ 18 j (-(σ 1 0))) 19 j ((gSt σ 18 j (-(σ 1 0))) 11 q)) 20 j 0) 21 j ((gSt (gSt (gSt σ 18 j (-(σ 1 0))) 19 j ((gSt σ 18 j (-(σ 1 0))) 11 q)) 20 j 0) 13 q))) rfl 22 (by decide) (hts (.fieldLink R_Md 62 "FlatBoxesModel" "breaks" "[Z") (List.mem_cons_of_mem _ (gIn k_688 (by decide +kernel)))) (fun _ h9 => h9) rfl d_Md_place_94 ?_
      refine lv_iload_n hx hb d_Md_place_97 rfl (lv_at hl 3 rfl) ?_
      refine lv_iconst (v := 0) hx hb d_Md_place_98 (by decide) ?_
      refine g_zast hx hb hK.1 hP hD hS 18 1 (wMd_22 t a (gSt (gSt (gSt (gSt σ 18 j (-(σ 1 0))) 19 j ((gSt σ 18 j (-(σ 1 0))) 11 q)) 20 j 0) 21 j ((gSt (gSt (gSt σ 18 j (-(σ 1 0))) 19 j ((gSt σ 18 j (-(σ 1 0))) 11 q)) 20 j 0) 13 q))) rfl (Or.inl rfl) j (rfl) (by omega) (by decide) (w' := wMd t a (gSt (gSt (gSt (gSt (gSt σ 18 j (-(σ 1 0))) 19 j ((gSt σ 18 j (-(σ 1 0))) 11 q)) 20 j 0) 21 j ((gSt (gSt (gSt σ 18 j (-(σ 1 0))) 19 j ((gSt σ 18 j (-(σ 1 0))) 11 q)) 20 j 0) 13 q)) 22 j 0)) (sMd_22 t a (gSt (gSt (gSt (gSt σ 18 j (-(σ 1 0))) 19 j ((gSt σ 18 j (-(σ 1 0))) 11 q)) 20 j 0) 21 j ((gSt (gSt (gSt σ 18 j (-(σ 1 0))) 19 j ((gSt σ 18 j (-(σ 1 0))) 11 q)) 20 j 0) 13 q)) j 0) d_Md_place_99 (fun H locs hP hD hS => ?_)
      refine lv_aload_n hx hb d_Md_place_100 rfl (lv_at hl 0 rfl) ?_
      refine lv_dup hx hb d_Md_place_101 rfl ?_
      refine va_get (D := D) (ci := 7) (v := .int ((gSt (gSt (gSt (gSt (gSt σ 18 j (-(σ 1 0))) 19 j ((gSt σ 18 j (-(σ 1 0))) 11 q)) 20 j 0) 21 j ((gSt (gSt (gSt σ 18 j (-(σ 1 0))) 19 j ((gSt σ 18 j (-(σ 1 0))) 11 q)) 20 j 0) 13 q)) 22 j 0) 17 0)) (C := R_Md) (T := F_Md) (N := 34) hx hb hts (fun w h => List.mem_cons_of_mem _ (i_Md w h)) hown hK.1 hP 0 (wMd_0 t a (gSt (gSt (gSt (gSt (gSt σ 18 j (-(σ 1 0))) 19 j ((gSt σ 18 j (-(σ 1 0))) 11 q)) 20 j 0) 21 j ((gSt (gSt (gSt σ 18 j (-(σ 1 0))) 19 j ((gSt σ 18 j (-(σ 1 0))) 11 q)) 20 j 0) 13 q)) 22 j 0)) rfl 17 (by decide) (hts (.fieldLink R_Md 116 "FlatBoxesModel" "layers" "I") (List.mem_cons_of_mem _ (gIn k_683 (by decide +kernel)))) (fun _ h9 => h9) rfl d_Md_place_102 ?_
      refine lv_iconst (v := 1) hx hb d_Md_place_105 (by decide) ?_
      refine lv_iadd hx hb d_Md_place_106 ?_
      refine va_put (D := D) (ci := 7) (v := .int (((gSt (gSt (gSt (gSt (gSt σ 18 j (-(σ 1 0))) 19 j ((gSt σ 18 j (-(σ 1 0))) 11 q)) 20 j 0) 21 j ((gSt (gSt (gSt σ 18 j (-(σ 1 0))) 19 j ((gSt σ 18 j (-(σ 1 0))) 11 q)) 20 j 0) 13 q)) 22 j 0) 17 0) + 1)) (ty := .int) (C := R_Md) (T := F_Md) (N := 34) hx hb hts (fun w h => List.mem_cons_of_mem _ (i_Md w h)) t_Md t_Md_ok n_Md hown hK.1 hP hD hS 0 (wMd_0 t a (gSt (gSt (gSt (gSt (gSt σ 18 j (-(σ 1 0))) 19 j ((gSt σ 18 j (-(σ 1 0))) 11 q)) 20 j 0) 21 j ((gSt (gSt (gSt σ 18 j (-(σ 1 0))) 19 j ((gSt σ 18 j (-(σ 1 0))) 11 q)) 20 j 0) 13 q)) 22 j 0)) rfl 17 (by decide) (hts (.fieldLink R_Md 116 "FlatBoxesModel" "layers" "I") (List.mem_cons_of_mem _ (gIn k_683 (by decide +kernel)))) (fun _ h9 => h9) rfl (by decide +kernel) rfl rfl (Nat.le_of_ble_eq_true rfl) d_Md_place_107 (fun H locs hP hD hS => ?_)
      have hP : va_P D gCl (wMd t a (gSt (gSt (gSt (gSt (gSt (gSt σ 18 j (-(σ 1 0))) 19 j ((gSt σ 18 j (-(σ 1 0))) 11 q)) 20 j 0) 21 j ((gSt (gSt (gSt σ 18 j (-(σ 1 0))) 19 j ((gSt σ 18 j (-(σ 1 0))) 11 q)) 20 j 0) 13 q)) 22 j 0) 17 0 (((gSt (gSt (gSt (gSt (gSt σ 18 j (-(σ 1 0))) 19 j ((gSt σ 18 j (-(σ 1 0))) 11 q)) 20 j 0) 21 j ((gSt (gSt (gSt σ 18 j (-(σ 1 0))) 19 j ((gSt σ 18 j (-(σ 1 0))) 11 q)) 20 j 0) 13 q)) 22 j 0) 17 0) + 1))) H := hP
      have hD : va_D A (wMd t a (gSt (gSt (gSt (gSt (gSt (gSt σ 18 j (-(σ 1 0))) 19 j ((gSt σ 18 j (-(σ 1 0))) 11 q)) 20 j 0) 21 j ((gSt (gSt (gSt σ 18 j (-(σ 1 0))) 19 j ((gSt σ 18 j (-(σ 1 0))) 11 q)) 20 j 0) 13 q)) 22 j 0) 17 0 (((gSt (gSt (gSt (gSt (gSt σ 18 j (-(σ 1 0))) 19 j ((gSt σ 18 j (-(σ 1 0))) 11 q)) 20 j 0) 21 j ((gSt (gSt (gSt σ 18 j (-(σ 1 0))) 19 j ((gSt σ 18 j (-(σ 1 0))) 11 q)) 20 j 0) 13 q)) 22 j 0) 17 0) + 1))) := hD
      exact cut_110 j (gSt (gSt (gSt (gSt (gSt (gSt σ 18 j (-(σ 1 0))) 19 j ((gSt σ 18 j (-(σ 1 0))) 11 q)) 20 j 0) 21 j ((gSt (gSt (gSt σ 18 j (-(σ 1 0))) 19 j ((gSt σ 18 j (-(σ 1 0))) 11 q)) 20 j 0) 13 q)) 22 j 0) 17 0 (((gSt (gSt (gSt (gSt (gSt σ 18 j (-(σ 1 0))) 19 j ((gSt σ 18 j (-(σ 1 0))) 11 q)) 20 j 0) 21 j ((gSt (gSt (gSt σ 18 j (-(σ 1 0))) 19 j ((gSt σ 18 j (-(σ 1 0))) 11 q)) 20 j 0) 13 q)) 22 j 0) 17 0) + 1)) _ _ _ (by omega) (by unfold mPlace; rw [hj, if_pos h_5]; rfl) hP hD hS (lv_sub hl [0, 1, 2, 3] rfl)
  have cut_2 : ∀ (n : Nat) (d : Nat) (j : Nat) (H : Heap) (locs : List Loc) (ls : Array Slot), j + d = L → d + 1 ≤ n → mRm σ q cc L = mRoom (σ 18) (σ 1 0) (σ 9 q) (σ 3 cc) d j → va_P D gCl (wMd t a σ) H → va_D A (wMd t a σ) → va_S A s.heap H locs → lv_has ls 4 [(0, .ref (a 0)), (1, .int (nI q)), (2, .int (nI cc)), (3, .int (nI j))] → gGov l p e s m below meth c D t A 0 [.ref (a 0), .int (nI q), .int (nI cc)] (wMd t a) (fun u => u = mPlace σ q cc L) H locs (F0 m 2 ls []) := by
    intro n
    induction n with
    | zero =>
      intro d j H locs ls hd hf hs hP hD hS hl
      exact absurd hf (by omega)
    | succ n ih =>
      intro d j H locs ls hd hf hs hP hD hS hl
      refine lv_iload_n hx hb d_Md_place_2 rfl (lv_at hl 3 rfl) ?_
      refine lv_aload_n hx hb d_Md_place_3 rfl (lv_at hl 0 rfl) ?_
      refine va_get (D := D) (ci := 7) (v := .int (σ 17 0)) (C := R_Md) (T := F_Md) (N := 34) hx hb hts (fun w h => List.mem_cons_of_mem _ (i_Md w h)) hown hK.1 hP 0 (wMd_0 t a σ) rfl 17 (by decide) (hts (.fieldLink R_Md 116 "FlatBoxesModel" "layers" "I") (List.mem_cons_of_mem _ (gIn k_683 (by decide +kernel)))) (fun _ h9 => h9) rfl d_Md_place_4 ?_
      refine lv_topi (fun v_6 e_6 => ?_)
      obtain rfl : v_6 = nI L := e_6.trans hL
      refine lv_icmp_ge (tgt := 43) hx hb d_Md_place_7 (by decide) (fun c_7 => ?_) (fun c_7 => ?_)
      · 
        have h_7 : L ≤ j := (nI_leI (a := L) (b := j) (by omega) (by omega)).mp c_7
        exact cut_43 j _ _ _ (by omega) (by rw [hs]; obtain rfl : d = 0 := (by omega); rfl) hP hD hS (lv_sub hl [0, 1, 2, 3] rfl)
      · 
        have h_7 : ¬ L ≤ j := fun q9 => c_7 ((nI_leI (a := L) (b := j) (by omega) (by omega)).mpr q9)
        obtain ⟨d, rfl⟩ : ∃ d9, d = d9 + 1 := ⟨d - 1, by omega⟩
        refine lv_aload_n hx hb d_Md_place_10 rfl (lv_at hl 0 rfl) ?_
        refine va_get (D := D) (ci := 7) (v := .ref (a 18)) (C := R_Md) (T := F_Md) (N := 34) hx hb hts (fun w h => List.mem_cons_of_mem _ (i_Md w h)) hown hK.1 hP 0 (wMd_0 t a σ) rfl 18 (by decide) (hts (.fieldLink R_Md 50 "FlatBoxesModel" "used" "[I") (List.mem_cons_of_mem _ (gIn k_684 (by decide +kernel)))) (fun _ h9 => h9) rfl d_Md_place_11 ?_
        refine lv_iload_n hx hb d_Md_place_14 rfl (lv_at hl 3 rfl) ?_
        refine g_iald hx hb hK.1 hP 14 0 (wMd_18 t a σ) rfl j (rfl) (by omega) (by decide) d_Md_place_15 ?_
        refine lv_aload_n hx hb d_Md_place_16 rfl (lv_at hl 0 rfl) ?_
        refine va_get (D := D) (ci := 7) (v := .int (σ 1 0)) (C := R_Md) (T := F_Md) (N := 34) hx hb hts (fun w h => List.mem_cons_of_mem _ (i_Md w h)) hown hK.1 hP 0 (wMd_0 t a σ) rfl 1 (by decide) (hts (.fieldLink R_Md 89 "FlatBoxesModel" "gap" "I") (List.mem_cons_of_mem _ (gIn k_667 (by decide +kernel)))) (fun _ h9 => h9) rfl d_Md_place_17 ?_
        refine lv_iadd hx hb d_Md_place_20 ?_
        refine lv_aload_n hx hb d_Md_place_21 rfl (lv_at hl 0 rfl) ?_
        refine va_get (D := D) (ci := 7) (v := .ref (a 9)) (C := R_Md) (T := F_Md) (N := 34) hx hb hts (fun w h => List.mem_cons_of_mem _ (i_Md w h)) hown hK.1 hP 0 (wMd_0 t a σ) rfl 9 (by decide) (hts (.fieldLink R_Md 25 "FlatBoxesModel" "wides" "[I") (List.mem_cons_of_mem _ (gIn k_675 (by decide +kernel)))) (fun _ h9 => h9) rfl d_Md_place_22 ?_
        refine lv_iload_n hx hb d_Md_place_25 rfl (lv_at hl 1 rfl) ?_
        refine g_iald hx hb hK.1 hP 6 0 (wMd_9 t a σ) rfl q (rfl) (by omega) (by decide) d_Md_place_26 ?_
        refine lv_iadd hx hb d_Md_place_27 ?_
        refine lv_aload_n hx hb d_Md_place_28 rfl (lv_at hl 0 rfl) ?_
        refine va_get (D := D) (ci := 7) (v := .ref (a 3)) (C := R_Md) (T := F_Md) (N := 34) hx hb hts (fun w h => List.mem_cons_of_mem _ (i_Md w h)) hown hK.1 hP 0 (wMd_0 t a σ) rfl 3 (by decide) (hts (.fieldLink R_Md 7 "FlatBoxesModel" "widths" "[I") (List.mem_cons_of_mem _ (gIn k_669 (by decide +kernel)))) (fun _ h9 => h9) rfl d_Md_place_29 ?_
        refine lv_iload_n hx hb d_Md_place_32 rfl (lv_at hl 2 rfl) ?_
        refine g_iald hx hb hK.1 hP 1 0 (wMd_3 t a σ) rfl cc (rfl) (by omega) (by decide) d_Md_place_33 ?_
        refine lv_icmp_le (tgt := 43) hx hb d_Md_place_34 (by decide) (fun c_8 => ?_) (fun c_8 => ?_)
        · 
          exact cut_43 j _ _ _ (by omega) (by rw [hs]; simp [mRoom, c_7, h_7, c_8]) hP hD hS (lv_sub hl [0, 1, 2, 3] rfl)
        · 
          refine lv_iinc (v := nI (j + 1)) (lv' := [(3, .int (nI (j + 1))), (0, .ref (a 0)), (1, .int (nI q)), (2, .int (nI cc))]) hx hb d_Md_place_37 hl (k := 3) rfl (nI_1 j) (by decide) rfl (fun ls hl => ?_)
          refine lv_goto (tgt := 2) hx hb d_Md_place_40 (by decide) ?_
          exact ih d (j + 1) _ _ _ (by omega) (by omega) (by rw [hs]; simp [mRoom, c_7, h_7, c_8]) hP hD hS (lv_sub hl [1, 2, 3, 0] rfl)
  refine lv_iconst (v := 0) hx hb d_Md_place_0 (by decide) ?_
  refine lv_istore_n (lv' := [(3, .int 0), (0, .ref (a 0)), (1, .int (nI q)), (2, .int (nI cc))]) hx hb d_Md_place_1 rfl hl (by decide) rfl (fun ls hl => ?_)
  exact cut_2 (L + 1) L 0 _ _ _ (by omega) (by omega) (rfl) hP hD hS (lv_sub hl [1, 2, 3, 0] rfl)
