def fSxs (σ : Nat → Nat → Int32) (b : Nat) : Nat := (σ 402 b).toNatClampNeg
def fMx (x y : Nat) : Nat := if x < y then y else x
theorem gMax {x y : Nat} (hx : x < 2 ^ 31) (hy : y < 2 ^ 31) : (if nI x < nI y then nI y else nI x) = nI (fMx x y) := by
  unfold fMx
  by_cases h : x < y
  · rw [if_pos h, if_pos ((nI_ltI hx hy).mpr h)]
  · rw [if_neg h, if_neg (fun q => h ((nI_ltI hx hy).mp q))]
theorem fMx_le {x y z : Nat} (h1 : x ≤ z) (h2 : y ≤ z) : fMx x y ≤ z := by unfold fMx; split <;> omega
def fBit (q : Nat) : Int32 := (1 : Int32) <<< (nI q &&& 31)
theorem gOr8 : ∀ q, q < 8 → ∀ x, x < 2 ^ q → nI x ||| fBit q = nI (x + 2 ^ q) := by decide +kernel
theorem gXor8 : ∀ q, q < 8 → ∀ x, x < 2 ^ q → nI (x + 2 ^ q) ^^^ fBit q = nI x := by decide +kernel
def fSetsOK (σ : Nat → Nat → Int32) (q : Nat) : Prop := ∀ b, b < 8 → ∃ x, x < 2 ^ q ∧ σ 402 b = nI x
def fShL (rec : Nat → (Nat → Nat → Int32) → (Nat → Nat → Int32)) (q : Nat) : Nat → (Nat → Nat → Int32) → (Nat → Nat → Int32)
  | 0, τ => τ
  | k + 1, τ => gSt (rec k (gSt (fShL rec q k τ) 402 k (fShL rec q k τ 402 k ||| fBit q))) 402 k (rec k (gSt (fShL rec q k τ) 402 k (fShL rec q k τ 402 k ||| fBit q)) 402 k ^^^ fBit q)
def fShr : Nat → Nat → Nat → (Nat → Nat → Int32) → (Nat → Nat → Int32)
  | 0, _, bx, σ => if nI bx * σ 405 0 < σ 406 0 then fCmp σ (fSxs σ) bx else σ
  | d + 1, q, bx, σ => if nI bx * σ 405 0 < σ 406 0 then fShL (fun k => fShr d (q + 1) (fMx bx (k + 1))) q (bx + 1) σ else σ
theorem fSetsOK_or {τ : Nat → Nat → Int32} {q k : Nat} (hq : q < 8) (h : fSetsOK τ q) : fSetsOK (gSt τ 402 k (τ 402 k ||| fBit q)) (q + 1) := by
  intro b hb
  rw [gSt_eq]
  obtain ⟨x, hx, e⟩ := h b hb
  by_cases hk : b = k
  · subst hk
    rw [pk_us, e, gOr8 q hq x hx]
    exact ⟨x + 2 ^ q, by rw [Nat.pow_succ]; omega, rfl⟩
  · rw [pk_un hk, e]
    exact ⟨x, by rw [Nat.pow_succ]; omega, rfl⟩
theorem fBack_402 {τ T : Nat → Nat → Int32} {q k : Nat} (hq : q < 8) (hk : k < 8) (h : fSetsOK τ q) (e : T 402 = gSt τ 402 k (τ 402 k ||| fBit q) 402) : gSt T 402 k (T 402 k ^^^ fBit q) 402 = τ 402 := by
  obtain ⟨x, hx, ex⟩ := h k hk
  rw [gSt_eq, e, gSt_eq]
  funext j
  by_cases hj : j = k
  · subst hj
    rw [pk_us, pk_us, ex, gOr8 q hq x hx, gXor8 q hq x hx]
  · rw [pk_un hj, pk_un hj]
theorem fCmp_fix (σ : Nat → Nat → Int32) (sx : Nat → Nat) (bx : Nat) {i : Nat} (h1 : i ≠ 403) (h2 : i ≠ 406) (h3 : i ≠ 407) : fCmp σ sx bx i = σ i := by
  unfold fCmp
  split
  · rfl
  · unfold gUp
    rw [if_neg h1, gSt_ne _ _ _ _ h3, gSt_ne _ _ _ _ h2]
theorem fShL_fix {rec : Nat → (Nat → Nat → Int32) → (Nat → Nat → Int32)} {q i : Nat} (h : i ≠ 402) (hr : ∀ k τ, rec k τ i = τ i) : ∀ k τ, fShL rec q k τ i = τ i
  | 0, τ => rfl
  | k + 1, τ => by
    unfold fShL
    rw [gSt_ne _ _ _ _ h, hr, gSt_ne _ _ _ _ h]
    exact fShL_fix h hr k τ
theorem fShr_fix {i : Nat} (h0 : i ≠ 402) (h1 : i ≠ 403) (h2 : i ≠ 406) (h3 : i ≠ 407) : ∀ d q bx σ, fShr d q bx σ i = σ i
  | 0, q, bx, σ => by
    unfold fShr
    split
    · exact fCmp_fix σ _ bx h1 h2 h3
    · rfl
  | d + 1, q, bx, σ => by
    unfold fShr
    split
    · exact fShL_fix h0 (fun k τ => fShr_fix h0 h1 h2 h3 d (q + 1) _ τ) _ σ
    · rfl
theorem fSetsOK_eq {σ τ : Nat → Nat → Int32} {q : Nat} (e : τ 402 = σ 402) (h : fSetsOK σ q) : fSetsOK τ q := fun b hb => by rw [e]; exact h b hb
theorem fShr_402 : ∀ d q bx σ, q + d ≤ 8 → bx ≤ q → fSetsOK σ q → fShr d q bx σ 402 = σ 402
  | 0, q, bx, σ, h1, h2, h3 => by
    unfold fShr
    split
    · exact fCmp_fix σ _ bx (by decide) (by decide) (by decide)
    · rfl
  | d + 1, q, bx, σ, h1, h2, h3 => by
    unfold fShr
    split
    · have hL : ∀ k, k ≤ bx + 1 → fShL (fun k => fShr d (q + 1) (fMx bx (k + 1))) q k σ 402 = σ 402 := by
        intro k
        induction k with
        | zero => intro _; rfl
        | succ k ih =>
          intro hk
          have e1 := ih (by omega)
          have ok1 := fSetsOK_eq e1 h3
          unfold fShL
          rw [fBack_402 (by omega) (by omega) ok1 (fShr_402 d (q + 1) (fMx bx (k + 1)) _ (by omega) (fMx_le (by omega) (by omega)) (fSetsOK_or (by omega) ok1)), e1]
      exact hL (bx + 1) (Nat.le_refl _)
    · rfl
theorem fSxs_ok {σ : Nat → Nat → Int32} {q : Nat} (hq : q ≤ 8) (h : fSetsOK σ q) : ∀ b, b < 8 → σ 402 b = nI (fSxs σ b) ∧ fSxs σ b < 256 := by
  intro b hb
  obtain ⟨x, hx, e⟩ := h b hb
  have h2 : 2 ^ q ≤ 2 ^ 8 := Nat.pow_le_pow_right (by omega) hq
  have h3 : (2 : Nat) ^ 8 = 256 := by decide
  have e2 : fSxs σ b = x := by unfold fSxs; rw [e, nI_clamp (by omega)]
  rw [e2]
  exact ⟨e, by omega⟩

theorem gg_Sr_73 (w0 : Cond) : GoodIn (w0 :: gBig) (wsV R_Sr 73 R_Sr y_Sr_compareWithBest (.code y_Sr_compareWithBest b_Sr_compareWithBest 4 none :: gBig)) := gGoodV (gIn k_326 (by decide +kernel)) (gIn k_328 (by decide +kernel)) (gInP (List.mem_of_getElem? (i := 6) (by decide +kernel)) (by decide +kernel)) (gIn k_6 (by decide +kernel)) (gIn k_329 (by decide +kernel))
theorem gg_Sr_57 (w0 : Cond) : GoodIn (w0 :: gBig) (wsV R_Sr 57 R_Sr y_Sr_share (.code y_Sr_share b_Sr_share 4 none :: gBig)) := gGoodV (gIn k_322 (by decide +kernel)) (gIn k_324 (by decide +kernel)) (gInP (List.mem_of_getElem? (i := 5) (by decide +kernel)) (by decide +kernel)) (gIn k_6 (by decide +kernel)) (gIn k_325 (by decide +kernel))
set_option maxHeartbeats 4000000 in
set_option maxRecDepth 100000 in
theorem c_Sr_share_0 (l : Launch) (D : va_G) (t : Nat → ClassId) (a : Nat → Nat) (σ : Nat → Nat → Int32) (q bx np : Nat) (hd : q + 0 = np) (hN8 : np ≤ 8) (hbq : bx ≤ q) (h404a : σ 404 0 = nI np) (hI : fSetsOK σ q) : gMv l D t y_Sr_share b_Sr_share 4 2 [.ref (a 499), .int (nI q), .int (nI bx)] (wFb t a σ) (wFb t a) (fun u => u = fShr 0 q bx σ) := by
  intro A
  refine Met.ofW (cc := b_Sr_share) (maxL := 4) (ret := none) (by decide) rfl ?_
  intro p e s m args below meth c s₁ B hml hv
  obtain ⟨rfl, hK, hP, hD⟩ := hv
  have hx := B.exec
  have hb := B.bytes
  have hr := B.returns
  have hts := atoms_spec (ws := .code y_Sr_share b_Sr_share 4 none :: gBig) B.pre
  have hown : s.vm.findClass R_Sr = some m.cls := findClass_of_methodNamed B.named
  have hlocks := B.notSynchronized
  have hS : va_S A s.heap s.heap [] := va_S.rf
  have hl := lv_entry ([.ref (a 499), .int (nI q), .int (nI bx)]) (n := 4) (Nat.le_of_ble_eq_true rfl)
  rw [lg_entry_eq]
  generalize (lg_sl ([.ref (a 499), .int (nI q), .int (nI bx)]) ++ List.replicate (4 - (lg_sl ([.ref (a 499), .int (nI q), .int (nI bx)])).length) Slot.unset).toArray = ls at hl ⊢
  have hl : lv_has ls 4 [(0, .ref (a 499)), (1, .int (nI q)), (2, .int (nI bx))] := hl
  show gGov l p e s m below meth c D t A 2 [.ref (a 499), .int (nI q), .int (nI bx)] (wFb t a) (fun u => u = fShr 0 q bx σ) s.heap [] (F0 m 0 ls [])
  refine lv_iload_n hx hb d_Sr_share_0 rfl (lv_at hl 2 rfl) ?_
  refine lv_aload_n hx hb d_Sr_share_1 rfl (lv_at hl 0 rfl) ?_
  refine va_get (D := D) (ci := 4) (v := .int (σ 405 0)) (C := R_Sr) (T := F_Sr) (N := 8) hx hb hts (fun w h => List.mem_cons_of_mem _ (i_Sr w h)) hown hK.1 hP 4 (wFb_o4 t a σ) rfl 5 (by decide) (hts (.fieldLink R_Sr 34 "FlatBoxes$Search" "leastPrice" "I") (List.mem_cons_of_mem _ (gIn k_164 (by decide +kernel)))) (fun _ h9 => h9) rfl d_Sr_share_2 ?_
  refine lv_imul hx hb d_Sr_share_5 ?_
  refine lv_aload_n hx hb d_Sr_share_6 rfl (lv_at hl 0 rfl) ?_
  refine va_get (D := D) (ci := 4) (v := .int (σ 406 0)) (C := R_Sr) (T := F_Sr) (N := 8) hx hb hts (fun w h => List.mem_cons_of_mem _ (i_Sr w h)) hown hK.1 hP 4 (wFb_o4 t a σ) rfl 6 (by decide) (hts (.fieldLink R_Sr 51 "FlatBoxes$Search" "bestPrice" "I") (List.mem_cons_of_mem _ (gIn k_165 (by decide +kernel)))) (fun _ h9 => h9) rfl d_Sr_share_7 ?_
  refine lv_icmp_lt (tgt := 14) hx hb d_Sr_share_10 (by decide) (fun c_1 => ?_) (fun c_1 => ?_)
  · 
    refine lv_iload_n hx hb d_Sr_share_14 rfl (lv_at hl 1 rfl) ?_
    refine lv_aload_n hx hb d_Sr_share_15 rfl (lv_at hl 0 rfl) ?_
    refine va_get (D := D) (ci := 4) (v := .int (σ 404 0)) (C := R_Sr) (T := F_Sr) (N := 8) hx hb hts (fun w h => List.mem_cons_of_mem _ (i_Sr w h)) hown hK.1 hP 4 (wFb_o4 t a σ) rfl 4 (by decide) (hts (.fieldLink R_Sr 30 "FlatBoxes$Search" "parts" "I") (List.mem_cons_of_mem _ (gIn k_163 (by decide +kernel)))) (fun _ h9 => h9) rfl d_Sr_share_16 ?_
    refine lv_topi (fun v_2 e_2 => ?_)
    obtain rfl : nI np = v_2 := (e_2.trans (h404a)).symm
    refine lv_icmp_lt (tgt := 28) hx hb d_Sr_share_19 (by decide) (fun c_3 => ?_) (fun c_3 => ?_)
    · 
      exact absurd c_3 (nI_nlt (by omega) (by omega))
    · 
      have h_3 : ¬ q < np := fun q9 => c_3 ((nI_ltI (a := q) (b := np) (by omega) (by omega)).mpr q9)
      refine lv_aload_n hx hb d_Sr_share_22 rfl (lv_at hl 0 rfl) ?_
      refine lv_iload_n hx hb d_Sr_share_23 rfl (lv_at hl 2 rfl) ?_
      refine g_vv (k := 1) (As := [.int (nI bx)]) (rest := []) (own := R_Sr) (C := R_Sr) (index := 73) ⟨hx, hb, hml, hown, hts⟩ (c_Sr_compareWithBest l D t a σ bx (by omega) (fSxs σ) (fun b hb => fSxs_ok (by omega) hI b (by omega))) (gg_Sr_73 _) (by decide +kernel) ⟨Nat.le_of_ble_eq_true rfl, Nat.le_of_ble_eq_true rfl⟩ rfl (va_recv hK.1 hP (ci := 4) (q0 := 4) rfl (wFb_o4 t a σ)) hK hP hD hS hl.1 rfl (Nat.le_of_ble_eq_true rfl) ⟨Nat.zero_le _, Nat.zero_le _⟩ d_Sr_share_24 (fun u_4 H locs q_4 hP hD hS => ?_)
      have hu_4 : u_4 = _ := q_4
      rw [hu_4] at hP hD
      exact W.vret hx hb hr (fun U hU hW => ⟨⟨fCmp σ (fSxs σ) bx, rfl, by unfold fShr; rw [if_pos (by assumption)], by rw [hU]; exact hP, hD⟩, hS.F hU⟩) hS.2.2 d_Sr_share_27
  · 
    exact W.vret hx hb hr (fun U hU hW => ⟨⟨σ, rfl, by unfold fShr; rw [if_neg (by assumption)], by rw [hU]; exact hP, hD⟩, hS.F hU⟩) hS.2.2 d_Sr_share_13
set_option maxHeartbeats 4000000 in
set_option maxRecDepth 100000 in
theorem c_Sr_share_1 (l : Launch) (D : va_G) (t : Nat → ClassId) (a : Nat → Nat) (σ : Nat → Nat → Int32) (q bx np : Nat) (hd : q + 1 = np) (hN8 : np ≤ 8) (hbq : bx ≤ q) (h404a : σ 404 0 = nI np) (hI : fSetsOK σ q) : gMv l D t y_Sr_share b_Sr_share 4 3 [.ref (a 499), .int (nI q), .int (nI bx)] (wFb t a σ) (wFb t a) (fun u => u = fShr 1 q bx σ) := by
  intro A
  refine Met.ofW (cc := b_Sr_share) (maxL := 4) (ret := none) (by decide) rfl ?_
  intro p e s m args below meth c s₁ B hml hv
  obtain ⟨rfl, hK, hP, hD⟩ := hv
  have hx := B.exec
  have hb := B.bytes
  have hr := B.returns
  have hts := atoms_spec (ws := .code y_Sr_share b_Sr_share 4 none :: gBig) B.pre
  have hown : s.vm.findClass R_Sr = some m.cls := findClass_of_methodNamed B.named
  have hlocks := B.notSynchronized
  have hS : va_S A s.heap s.heap [] := va_S.rf
  have hl := lv_entry ([.ref (a 499), .int (nI q), .int (nI bx)]) (n := 4) (Nat.le_of_ble_eq_true rfl)
  rw [lg_entry_eq]
  generalize (lg_sl ([.ref (a 499), .int (nI q), .int (nI bx)]) ++ List.replicate (4 - (lg_sl ([.ref (a 499), .int (nI q), .int (nI bx)])).length) Slot.unset).toArray = ls at hl ⊢
  have hl : lv_has ls 4 [(0, .ref (a 499)), (1, .int (nI q)), (2, .int (nI bx))] := hl
  show gGov l p e s m below meth c D t A 3 [.ref (a 499), .int (nI q), .int (nI bx)] (wFb t a) (fun u => u = fShr 1 q bx σ) s.heap [] (F0 m 0 ls [])
  have cut_30 : ∀ (n : Nat) (k : Nat) (τ : Nat → Nat → Int32) (H : Heap) (locs : List Loc) (ls : Array Slot), (k ≤ bx + 1) → (bx + 2 ≤ k + n) → (fShL (fun k => fShr 0 (q + 1) (fMx bx (k + 1))) q k σ = τ) → (τ 402 = σ 402) → (τ 404 0 = nI np) → (nI bx * σ 405 0 < σ 406 0) → va_P D gCl (wFb t a τ) H → va_D A (wFb t a τ) → va_S A s.heap H locs → lv_has ls 4 [(0, .ref (a 499)), (1, .int (nI q)), (2, .int (nI bx)), (3, .int (nI k))] → gGov l p e s m below meth c D t A 3 [.ref (a 499), .int (nI q), .int (nI bx)] (wFb t a) (fun u => u = fShr 1 q bx σ) H locs (F0 m 30 ls []) := by
    intro n
    induction n with
    | zero =>
      intro k τ H locs ls hk hf hs h402 h404 hgo hP hD hS hl
      exact absurd hf (by omega)
    | succ n ih =>
      intro k τ H locs ls hk hf hs h402 h404 hgo hP hD hS hl
      refine lv_iload_n hx hb d_Sr_share_30 rfl (lv_at hl 3 rfl) ?_
      refine lv_iload_n hx hb d_Sr_share_31 rfl (lv_at hl 2 rfl) ?_
      refine lv_icmp_gt (tgt := 79) hx hb d_Sr_share_32 (by decide) (fun c_1 => ?_) (fun c_1 => ?_)
      · 
        have h_1 : bx < k := (nI_ltI (a := bx) (b := k) (by omega) (by omega)).mp c_1
        exact W.vret hx hb hr (fun U hU hW => ⟨⟨τ, rfl, by unfold fShr; rw [if_pos hgo]; obtain rfl : k = bx + 1 := (by omega); exact hs.symm, by rw [hU]; exact hP, hD⟩, hS.F hU⟩) hS.2.2 d_Sr_share_79
      · 
        have h_1 : ¬ bx < k := fun q9 => c_1 ((nI_ltI (a := bx) (b := k) (by omega) (by omega)).mpr q9)
        refine lv_aload_n hx hb d_Sr_share_35 rfl (lv_at hl 0 rfl) ?_
        refine va_get (D := D) (ci := 4) (v := .ref (a 402)) (C := R_Sr) (T := F_Sr) (N := 8) hx hb hts (fun w h => List.mem_cons_of_mem _ (i_Sr w h)) hown hK.1 hP 4 (wFb_o4 t a τ) rfl 2 (by decide) (hts (.fieldLink R_Sr 18 "FlatBoxes$Search" "sets" "[I") (List.mem_cons_of_mem _ (gIn k_161 (by decide +kernel)))) (fun _ h9 => h9) rfl d_Sr_share_36 ?_
        refine lv_iload_n hx hb d_Sr_share_39 rfl (lv_at hl 3 rfl) ?_
        refine lv_dup2_11 hx hb d_Sr_share_40 rfl rfl ?_
        refine g_iald hx hb hK.1 hP 29 0 (wFb_402 t a τ) rfl k (rfl) (by omega) (by decide) d_Sr_share_41 ?_
        refine lv_iconst (v := 1) hx hb d_Sr_share_42 (by decide) ?_
        refine lv_iload_n hx hb d_Sr_share_43 rfl (lv_at hl 1 rfl) ?_
        refine lv_ishl hx hb d_Sr_share_44 ?_
        refine lv_topi (fun v_2 e_2 => ?_)
        obtain rfl : fBit q = v_2 := (e_2.trans (rfl)).symm
        refine lv_ior hx hb d_Sr_share_45 ?_
        refine g_iast hx hb hK.1 hP hD hS 29 0 (wFb_402 t a τ) rfl k (rfl) (by omega) (by decide) (w' := wFb t a (gSt τ 402 k ((τ 402 k) ||| (fBit q)))) (sFb_402 t a τ k ((τ 402 k) ||| (fBit q))) d_Sr_share_46 (fun H locs hP hD hS => ?_)
        refine lv_aload_n hx hb d_Sr_share_47 rfl (lv_at hl 0 rfl) ?_
        refine lv_iload_n hx hb d_Sr_share_48 rfl (lv_at hl 1 rfl) ?_
        refine lv_iconst (v := 1) hx hb d_Sr_share_49 (by decide) ?_
        refine lv_iadd hx hb d_Sr_share_50 ?_
        refine lv_topi (fun v_3 e_3 => ?_)
        obtain rfl : nI (q + 1) = v_3 := (e_3.trans (nI_1 _)).symm
        refine lv_iload_n hx hb d_Sr_share_51 rfl (lv_at hl 2 rfl) ?_
        refine lv_iload_n hx hb d_Sr_share_52 rfl (lv_at hl 3 rfl) ?_
        refine lv_iconst (v := 1) hx hb d_Sr_share_53 (by decide) ?_
        refine lv_iadd hx hb d_Sr_share_54 ?_
        refine lv_topi (fun v_4 e_4 => ?_)
        obtain rfl : nI (k + 1) = v_4 := (e_4.trans (nI_1 _)).symm
        refine va_mmax hx hb (hml.trans hl.1.symm) hown (hts (.methodLink R_Sr 77 Lib.Math.max.name) (List.mem_cons_of_mem _ (gIn k_333 (by decide +kernel)))) (hts (.static Lib.Math.max.name) (List.mem_cons_of_mem _ (gIn k_113 (by decide +kernel)))) (hts (.initialized "java/lang/Math") (List.mem_cons_of_mem _ (gIn k_5 (by decide +kernel)))) (hts (.code Lib.Math.max.name Lib.Math.max.code 2 (some .int)) (List.mem_cons_of_mem _ (gIn k_114 (by decide +kernel)))) (Nat.le_of_ble_eq_true rfl) (Nat.le_of_ble_eq_true rfl) (Nat.zero_le _) (Nat.zero_le _) d_Sr_share_55 ?_
        refine lv_topi (fun v_5 e_5 => ?_)
        obtain rfl : nI (fMx bx (k + 1)) = v_5 := (e_5.trans (gMax (by omega) (by omega))).symm
        refine g_vv (k := 2) (As := [.int (nI (q + 1)), .int (nI (fMx bx (k + 1)))]) (rest := []) (own := R_Sr) (C := R_Sr) (index := 57) ⟨hx, hb, hml, hown, hts⟩ (c_Sr_share_0 l D t a (gSt τ 402 k ((τ 402 k) ||| (fBit q))) (q + 1) (fMx bx (k + 1)) np (by omega) hN8 (fMx_le (by omega) (by omega)) h404 (fSetsOK_or (by omega) (fSetsOK_eq h402 hI))) (gg_Sr_57 _) (by decide +kernel) ⟨Nat.le_of_ble_eq_true rfl, Nat.le_of_ble_eq_true rfl⟩ rfl (va_recv hK.1 hP (ci := 4) (q0 := 4) rfl (wFb_o4 t a (gSt τ 402 k ((τ 402 k) ||| (fBit q))))) hK hP hD hS hl.1 rfl (Nat.le_of_ble_eq_true rfl) ⟨Nat.zero_le _, Nat.zero_le _⟩ d_Sr_share_58 (fun u_6 H locs q_6 hP hD hS => ?_)
        have hu_6 : u_6 = _ := q_6
        rw [hu_6] at hP hD
        refine lv_aload_n hx hb d_Sr_share_61 rfl (lv_at hl 0 rfl) ?_
        refine va_get (D := D) (ci := 4) (v := .ref (a 402)) (C := R_Sr) (T := F_Sr) (N := 8) hx hb hts (fun w h => List.mem_cons_of_mem _ (i_Sr w h)) hown hK.1 hP 4 (wFb_o4 t a (fShr 0 (q + 1) (fMx bx (k + 1)) (gSt τ 402 k ((τ 402 k) ||| (fBit q))))) rfl 2 (by decide) (hts (.fieldLink R_Sr 18 "FlatBoxes$Search" "sets" "[I") (List.mem_cons_of_mem _ (gIn k_161 (by decide +kernel)))) (fun _ h9 => h9) rfl d_Sr_share_62 ?_
        refine lv_iload_n hx hb d_Sr_share_65 rfl (lv_at hl 3 rfl) ?_
        refine lv_dup2_11 hx hb d_Sr_share_66 rfl rfl ?_
        refine g_iald hx hb hK.1 hP 29 0 (wFb_402 t a (fShr 0 (q + 1) (fMx bx (k + 1)) (gSt τ 402 k ((τ 402 k) ||| (fBit q))))) rfl k (rfl) (by omega) (by decide) d_Sr_share_67 ?_
        refine lv_iconst (v := 1) hx hb d_Sr_share_68 (by decide) ?_
        refine lv_iload_n hx hb d_Sr_share_69 rfl (lv_at hl 1 rfl) ?_
        refine lv_ishl hx hb d_Sr_share_70 ?_
        refine lv_topi (fun v_7 e_7 => ?_)
        obtain rfl : fBit q = v_7 := (e_7.trans (rfl)).symm
        refine lv_ixor hx hb d_Sr_share_71 ?_
        refine g_iast hx hb hK.1 hP hD hS 29 0 (wFb_402 t a (fShr 0 (q + 1) (fMx bx (k + 1)) (gSt τ 402 k ((τ 402 k) ||| (fBit q))))) rfl k (rfl) (by omega) (by decide) (w' := wFb t a (gSt (fShr 0 (q + 1) (fMx bx (k + 1)) (gSt τ 402 k ((τ 402 k) ||| (fBit q)))) 402 k (((fShr 0 (q + 1) (fMx bx (k + 1)) (gSt τ 402 k ((τ 402 k) ||| (fBit q)))) 402 k) ^^^ (fBit q)))) (sFb_402 t a (fShr 0 (q + 1) (fMx bx (k + 1)) (gSt τ 402 k ((τ 402 k) ||| (fBit q)))) k (((fShr 0 (q + 1) (fMx bx (k + 1)) (gSt τ 402 k ((τ 402 k) ||| (fBit q)))) 402 k) ^^^ (fBit q))) d_Sr_share_72 (fun H locs hP hD hS => ?_)
        refine lv_iinc (v := nI (k + 1)) (lv' := [(3, .int (nI (k + 1))), (0, .ref (a 499)), (1, .int (nI q)), (2, .int (nI bx))]) hx hb d_Sr_share_73 hl (k := 3) rfl (nI_1 k) (by decide) rfl (fun ls hl => ?_)
        refine lv_goto (tgt := 30) hx hb d_Sr_share_76 (by decide) ?_
        exact ih (k + 1) (gSt (fShr 0 (q + 1) (fMx bx (k + 1)) (gSt τ 402 k ((τ 402 k) ||| (fBit q)))) 402 k (((fShr 0 (q + 1) (fMx bx (k + 1)) (gSt τ 402 k ((τ 402 k) ||| (fBit q)))) 402 k) ^^^ (fBit q))) _ _ _ (by omega) (by omega) (by rw [← hs]; rfl) ((fBack_402 (by omega) (by omega) (fSetsOK_eq h402 hI) (fShr_402 0 (q + 1) (fMx bx (k + 1)) _ (by omega) (fMx_le (by omega) (by omega)) (fSetsOK_or (by omega) (fSetsOK_eq h402 hI)))).trans h402) ((congrFun ((gSt_ne _ _ _ _ (by decide)).trans (fShr_fix (by decide) (by decide) (by decide) (by decide) _ _ _ _)) 0).trans h404) (hgo) hP hD hS (lv_sub hl [1, 2, 3, 0] rfl)
  refine lv_iload_n hx hb d_Sr_share_0 rfl (lv_at hl 2 rfl) ?_
  refine lv_aload_n hx hb d_Sr_share_1 rfl (lv_at hl 0 rfl) ?_
  refine va_get (D := D) (ci := 4) (v := .int (σ 405 0)) (C := R_Sr) (T := F_Sr) (N := 8) hx hb hts (fun w h => List.mem_cons_of_mem _ (i_Sr w h)) hown hK.1 hP 4 (wFb_o4 t a σ) rfl 5 (by decide) (hts (.fieldLink R_Sr 34 "FlatBoxes$Search" "leastPrice" "I") (List.mem_cons_of_mem _ (gIn k_164 (by decide +kernel)))) (fun _ h9 => h9) rfl d_Sr_share_2 ?_
  refine lv_imul hx hb d_Sr_share_5 ?_
  refine lv_aload_n hx hb d_Sr_share_6 rfl (lv_at hl 0 rfl) ?_
  refine va_get (D := D) (ci := 4) (v := .int (σ 406 0)) (C := R_Sr) (T := F_Sr) (N := 8) hx hb hts (fun w h => List.mem_cons_of_mem _ (i_Sr w h)) hown hK.1 hP 4 (wFb_o4 t a σ) rfl 6 (by decide) (hts (.fieldLink R_Sr 51 "FlatBoxes$Search" "bestPrice" "I") (List.mem_cons_of_mem _ (gIn k_165 (by decide +kernel)))) (fun _ h9 => h9) rfl d_Sr_share_7 ?_
  refine lv_icmp_lt (tgt := 14) hx hb d_Sr_share_10 (by decide) (fun c_8 => ?_) (fun c_8 => ?_)
  · 
    refine lv_iload_n hx hb d_Sr_share_14 rfl (lv_at hl 1 rfl) ?_
    refine lv_aload_n hx hb d_Sr_share_15 rfl (lv_at hl 0 rfl) ?_
    refine va_get (D := D) (ci := 4) (v := .int (σ 404 0)) (C := R_Sr) (T := F_Sr) (N := 8) hx hb hts (fun w h => List.mem_cons_of_mem _ (i_Sr w h)) hown hK.1 hP 4 (wFb_o4 t a σ) rfl 4 (by decide) (hts (.fieldLink R_Sr 30 "FlatBoxes$Search" "parts" "I") (List.mem_cons_of_mem _ (gIn k_163 (by decide +kernel)))) (fun _ h9 => h9) rfl d_Sr_share_16 ?_
    refine lv_topi (fun v_9 e_9 => ?_)
    obtain rfl : nI np = v_9 := (e_9.trans (h404a)).symm
    refine lv_icmp_lt (tgt := 28) hx hb d_Sr_share_19 (by decide) (fun c_10 => ?_) (fun c_10 => ?_)
    · 
      have h_10 : q < np := (nI_ltI (a := q) (b := np) (by omega) (by omega)).mp c_10
      refine lv_iconst (v := 0) hx hb d_Sr_share_28 (by decide) ?_
      refine lv_istore_n (lv' := [(3, .int 0), (0, .ref (a 499)), (1, .int (nI q)), (2, .int (nI bx))]) hx hb d_Sr_share_29 rfl hl (by decide) rfl (fun ls hl => ?_)
      exact cut_30 (bx + 2) 0 σ _ _ _ (by omega) (by omega) (rfl) (rfl) (h404a) (by assumption) hP hD hS (lv_sub hl [1, 2, 3, 0] rfl)
    · 
      exact absurd c_10 (fun h => h (nI_lt (by omega) (by omega)))
  · 
    exact W.vret hx hb hr (fun U hU hW => ⟨⟨σ, rfl, by unfold fShr; rw [if_neg (by assumption)], by rw [hU]; exact hP, hD⟩, hS.F hU⟩) hS.2.2 d_Sr_share_13
set_option maxHeartbeats 4000000 in
set_option maxRecDepth 100000 in
theorem c_Sr_share_2 (l : Launch) (D : va_G) (t : Nat → ClassId) (a : Nat → Nat) (σ : Nat → Nat → Int32) (q bx np : Nat) (hd : q + 2 = np) (hN8 : np ≤ 8) (hbq : bx ≤ q) (h404a : σ 404 0 = nI np) (hI : fSetsOK σ q) : gMv l D t y_Sr_share b_Sr_share 4 4 [.ref (a 499), .int (nI q), .int (nI bx)] (wFb t a σ) (wFb t a) (fun u => u = fShr 2 q bx σ) := by
  intro A
  refine Met.ofW (cc := b_Sr_share) (maxL := 4) (ret := none) (by decide) rfl ?_
  intro p e s m args below meth c s₁ B hml hv
  obtain ⟨rfl, hK, hP, hD⟩ := hv
  have hx := B.exec
  have hb := B.bytes
  have hr := B.returns
  have hts := atoms_spec (ws := .code y_Sr_share b_Sr_share 4 none :: gBig) B.pre
  have hown : s.vm.findClass R_Sr = some m.cls := findClass_of_methodNamed B.named
  have hlocks := B.notSynchronized
  have hS : va_S A s.heap s.heap [] := va_S.rf
  have hl := lv_entry ([.ref (a 499), .int (nI q), .int (nI bx)]) (n := 4) (Nat.le_of_ble_eq_true rfl)
  rw [lg_entry_eq]
  generalize (lg_sl ([.ref (a 499), .int (nI q), .int (nI bx)]) ++ List.replicate (4 - (lg_sl ([.ref (a 499), .int (nI q), .int (nI bx)])).length) Slot.unset).toArray = ls at hl ⊢
  have hl : lv_has ls 4 [(0, .ref (a 499)), (1, .int (nI q)), (2, .int (nI bx))] := hl
  show gGov l p e s m below meth c D t A 4 [.ref (a 499), .int (nI q), .int (nI bx)] (wFb t a) (fun u => u = fShr 2 q bx σ) s.heap [] (F0 m 0 ls [])
  have cut_30 : ∀ (n : Nat) (k : Nat) (τ : Nat → Nat → Int32) (H : Heap) (locs : List Loc) (ls : Array Slot), (k ≤ bx + 1) → (bx + 2 ≤ k + n) → (fShL (fun k => fShr 1 (q + 1) (fMx bx (k + 1))) q k σ = τ) → (τ 402 = σ 402) → (τ 404 0 = nI np) → (nI bx * σ 405 0 < σ 406 0) → va_P D gCl (wFb t a τ) H → va_D A (wFb t a τ) → va_S A s.heap H locs → lv_has ls 4 [(0, .ref (a 499)), (1, .int (nI q)), (2, .int (nI bx)), (3, .int (nI k))] → gGov l p e s m below meth c D t A 4 [.ref (a 499), .int (nI q), .int (nI bx)] (wFb t a) (fun u => u = fShr 2 q bx σ) H locs (F0 m 30 ls []) := by
    intro n
    induction n with
    | zero =>
      intro k τ H locs ls hk hf hs h402 h404 hgo hP hD hS hl
      exact absurd hf (by omega)
    | succ n ih =>
      intro k τ H locs ls hk hf hs h402 h404 hgo hP hD hS hl
      refine lv_iload_n hx hb d_Sr_share_30 rfl (lv_at hl 3 rfl) ?_
      refine lv_iload_n hx hb d_Sr_share_31 rfl (lv_at hl 2 rfl) ?_
      refine lv_icmp_gt (tgt := 79) hx hb d_Sr_share_32 (by decide) (fun c_1 => ?_) (fun c_1 => ?_)
      · 
        have h_1 : bx < k := (nI_ltI (a := bx) (b := k) (by omega) (by omega)).mp c_1
        exact W.vret hx hb hr (fun U hU hW => ⟨⟨τ, rfl, by unfold fShr; rw [if_pos hgo]; obtain rfl : k = bx + 1 := (by omega); exact hs.symm, by rw [hU]; exact hP, hD⟩, hS.F hU⟩) hS.2.2 d_Sr_share_79
      · 
        have h_1 : ¬ bx < k := fun q9 => c_1 ((nI_ltI (a := bx) (b := k) (by omega) (by omega)).mpr q9)
        refine lv_aload_n hx hb d_Sr_share_35 rfl (lv_at hl 0 rfl) ?_
        refine va_get (D := D) (ci := 4) (v := .ref (a 402)) (C := R_Sr) (T := F_Sr) (N := 8) hx hb hts (fun w h => List.mem_cons_of_mem _ (i_Sr w h)) hown hK.1 hP 4 (wFb_o4 t a τ) rfl 2 (by decide) (hts (.fieldLink R_Sr 18 "FlatBoxes$Search" "sets" "[I") (List.mem_cons_of_mem _ (gIn k_161 (by decide +kernel)))) (fun _ h9 => h9) rfl d_Sr_share_36 ?_
        refine lv_iload_n hx hb d_Sr_share_39 rfl (lv_at hl 3 rfl) ?_
        refine lv_dup2_11 hx hb d_Sr_share_40 rfl rfl ?_
        refine g_iald hx hb hK.1 hP 29 0 (wFb_402 t a τ) rfl k (rfl) (by omega) (by decide) d_Sr_share_41 ?_
        refine lv_iconst (v := 1) hx hb d_Sr_share_42 (by decide) ?_
        refine lv_iload_n hx hb d_Sr_share_43 rfl (lv_at hl 1 rfl) ?_
        refine lv_ishl hx hb d_Sr_share_44 ?_
        refine lv_topi (fun v_2 e_2 => ?_)
        obtain rfl : fBit q = v_2 := (e_2.trans (rfl)).symm
        refine lv_ior hx hb d_Sr_share_45 ?_
        refine g_iast hx hb hK.1 hP hD hS 29 0 (wFb_402 t a τ) rfl k (rfl) (by omega) (by decide) (w' := wFb t a (gSt τ 402 k ((τ 402 k) ||| (fBit q)))) (sFb_402 t a τ k ((τ 402 k) ||| (fBit q))) d_Sr_share_46 (fun H locs hP hD hS => ?_)
        refine lv_aload_n hx hb d_Sr_share_47 rfl (lv_at hl 0 rfl) ?_
        refine lv_iload_n hx hb d_Sr_share_48 rfl (lv_at hl 1 rfl) ?_
        refine lv_iconst (v := 1) hx hb d_Sr_share_49 (by decide) ?_
        refine lv_iadd hx hb d_Sr_share_50 ?_
        refine lv_topi (fun v_3 e_3 => ?_)
        obtain rfl : nI (q + 1) = v_3 := (e_3.trans (nI_1 _)).symm
        refine lv_iload_n hx hb d_Sr_share_51 rfl (lv_at hl 2 rfl) ?_
        refine lv_iload_n hx hb d_Sr_share_52 rfl (lv_at hl 3 rfl) ?_
        refine lv_iconst (v := 1) hx hb d_Sr_share_53 (by decide) ?_
        refine lv_iadd hx hb d_Sr_share_54 ?_
        refine lv_topi (fun v_4 e_4 => ?_)
        obtain rfl : nI (k + 1) = v_4 := (e_4.trans (nI_1 _)).symm
        refine va_mmax hx hb (hml.trans hl.1.symm) hown (hts (.methodLink R_Sr 77 Lib.Math.max.name) (List.mem_cons_of_mem _ (gIn k_333 (by decide +kernel)))) (hts (.static Lib.Math.max.name) (List.mem_cons_of_mem _ (gIn k_113 (by decide +kernel)))) (hts (.initialized "java/lang/Math") (List.mem_cons_of_mem _ (gIn k_5 (by decide +kernel)))) (hts (.code Lib.Math.max.name Lib.Math.max.code 2 (some .int)) (List.mem_cons_of_mem _ (gIn k_114 (by decide +kernel)))) (Nat.le_of_ble_eq_true rfl) (Nat.le_of_ble_eq_true rfl) (Nat.zero_le _) (Nat.zero_le _) d_Sr_share_55 ?_
        refine lv_topi (fun v_5 e_5 => ?_)
        obtain rfl : nI (fMx bx (k + 1)) = v_5 := (e_5.trans (gMax (by omega) (by omega))).symm
        refine g_vv (k := 2) (As := [.int (nI (q + 1)), .int (nI (fMx bx (k + 1)))]) (rest := []) (own := R_Sr) (C := R_Sr) (index := 57) ⟨hx, hb, hml, hown, hts⟩ (c_Sr_share_1 l D t a (gSt τ 402 k ((τ 402 k) ||| (fBit q))) (q + 1) (fMx bx (k + 1)) np (by omega) hN8 (fMx_le (by omega) (by omega)) h404 (fSetsOK_or (by omega) (fSetsOK_eq h402 hI))) (gg_Sr_57 _) (by decide +kernel) ⟨Nat.le_of_ble_eq_true rfl, Nat.le_of_ble_eq_true rfl⟩ rfl (va_recv hK.1 hP (ci := 4) (q0 := 4) rfl (wFb_o4 t a (gSt τ 402 k ((τ 402 k) ||| (fBit q))))) hK hP hD hS hl.1 rfl (Nat.le_of_ble_eq_true rfl) ⟨Nat.zero_le _, Nat.zero_le _⟩ d_Sr_share_58 (fun u_6 H locs q_6 hP hD hS => ?_)
        have hu_6 : u_6 = _ := q_6
        rw [hu_6] at hP hD
        refine lv_aload_n hx hb d_Sr_share_61 rfl (lv_at hl 0 rfl) ?_
        refine va_get (D := D) (ci := 4) (v := .ref (a 402)) (C := R_Sr) (T := F_Sr) (N := 8) hx hb hts (fun w h => List.mem_cons_of_mem _ (i_Sr w h)) hown hK.1 hP 4 (wFb_o4 t a (fShr 1 (q + 1) (fMx bx (k + 1)) (gSt τ 402 k ((τ 402 k) ||| (fBit q))))) rfl 2 (by decide) (hts (.fieldLink R_Sr 18 "FlatBoxes$Search" "sets" "[I") (List.mem_cons_of_mem _ (gIn k_161 (by decide +kernel)))) (fun _ h9 => h9) rfl d_Sr_share_62 ?_
        refine lv_iload_n hx hb d_Sr_share_65 rfl (lv_at hl 3 rfl) ?_
        refine lv_dup2_11 hx hb d_Sr_share_66 rfl rfl ?_
        refine g_iald hx hb hK.1 hP 29 0 (wFb_402 t a (fShr 1 (q + 1) (fMx bx (k + 1)) (gSt τ 402 k ((τ 402 k) ||| (fBit q))))) rfl k (rfl) (by omega) (by decide) d_Sr_share_67 ?_
        refine lv_iconst (v := 1) hx hb d_Sr_share_68 (by decide) ?_
        refine lv_iload_n hx hb d_Sr_share_69 rfl (lv_at hl 1 rfl) ?_
        refine lv_ishl hx hb d_Sr_share_70 ?_
        refine lv_topi (fun v_7 e_7 => ?_)
        obtain rfl : fBit q = v_7 := (e_7.trans (rfl)).symm
        refine lv_ixor hx hb d_Sr_share_71 ?_
        refine g_iast hx hb hK.1 hP hD hS 29 0 (wFb_402 t a (fShr 1 (q + 1) (fMx bx (k + 1)) (gSt τ 402 k ((τ 402 k) ||| (fBit q))))) rfl k (rfl) (by omega) (by decide) (w' := wFb t a (gSt (fShr 1 (q + 1) (fMx bx (k + 1)) (gSt τ 402 k ((τ 402 k) ||| (fBit q)))) 402 k (((fShr 1 (q + 1) (fMx bx (k + 1)) (gSt τ 402 k ((τ 402 k) ||| (fBit q)))) 402 k) ^^^ (fBit q)))) (sFb_402 t a (fShr 1 (q + 1) (fMx bx (k + 1)) (gSt τ 402 k ((τ 402 k) ||| (fBit q)))) k (((fShr 1 (q + 1) (fMx bx (k + 1)) (gSt τ 402 k ((τ 402 k) ||| (fBit q)))) 402 k) ^^^ (fBit q))) d_Sr_share_72 (fun H locs hP hD hS => ?_)
        refine lv_iinc (v := nI (k + 1)) (lv' := [(3, .int (nI (k + 1))), (0, .ref (a 499)), (1, .int (nI q)), (2, .int (nI bx))]) hx hb d_Sr_share_73 hl (k := 3) rfl (nI_1 k) (by decide) rfl (fun ls hl => ?_)
        refine lv_goto (tgt := 30) hx hb d_Sr_share_76 (by decide) ?_
        exact ih (k + 1) (gSt (fShr 1 (q + 1) (fMx bx (k + 1)) (gSt τ 402 k ((τ 402 k) ||| (fBit q)))) 402 k (((fShr 1 (q + 1) (fMx bx (k + 1)) (gSt τ 402 k ((τ 402 k) ||| (fBit q)))) 402 k) ^^^ (fBit q))) _ _ _ (by omega) (by omega) (by rw [← hs]; rfl) ((fBack_402 (by omega) (by omega) (fSetsOK_eq h402 hI) (fShr_402 1 (q + 1) (fMx bx (k + 1)) _ (by omega) (fMx_le (by omega) (by omega)) (fSetsOK_or (by omega) (fSetsOK_eq h402 hI)))).trans h402) ((congrFun ((gSt_ne _ _ _ _ (by decide)).trans (fShr_fix (by decide) (by decide) (by decide) (by decide) _ _ _ _)) 0).trans h404) (hgo) hP hD hS (lv_sub hl [1, 2, 3, 0] rfl)
  refine lv_iload_n hx hb d_Sr_share_0 rfl (lv_at hl 2 rfl) ?_
  refine lv_aload_n hx hb d_Sr_share_1 rfl (lv_at hl 0 rfl) ?_
  refine va_get (D := D) (ci := 4) (v := .int (σ 405 0)) (C := R_Sr) (T := F_Sr) (N := 8) hx hb hts (fun w h => List.mem_cons_of_mem _ (i_Sr w h)) hown hK.1 hP 4 (wFb_o4 t a σ) rfl 5 (by decide) (hts (.fieldLink R_Sr 34 "FlatBoxes$Search" "leastPrice" "I") (List.mem_cons_of_mem _ (gIn k_164 (by decide +kernel)))) (fun _ h9 => h9) rfl d_Sr_share_2 ?_
  refine lv_imul hx hb d_Sr_share_5 ?_
  refine lv_aload_n hx hb d_Sr_share_6 rfl (lv_at hl 0 rfl) ?_
  refine va_get (D := D) (ci := 4) (v := .int (σ 406 0)) (C := R_Sr) (T := F_Sr) (N := 8) hx hb hts (fun w h => List.mem_cons_of_mem _ (i_Sr w h)) hown hK.1 hP 4 (wFb_o4 t a σ) rfl 6 (by decide) (hts (.fieldLink R_Sr 51 "FlatBoxes$Search" "bestPrice" "I") (List.mem_cons_of_mem _ (gIn k_165 (by decide +kernel)))) (fun _ h9 => h9) rfl d_Sr_share_7 ?_
  refine lv_icmp_lt (tgt := 14) hx hb d_Sr_share_10 (by decide) (fun c_8 => ?_) (fun c_8 => ?_)
  · 
    refine lv_iload_n hx hb d_Sr_share_14 rfl (lv_at hl 1 rfl) ?_
    refine lv_aload_n hx hb d_Sr_share_15 rfl (lv_at hl 0 rfl) ?_
    refine va_get (D := D) (ci := 4) (v := .int (σ 404 0)) (C := R_Sr) (T := F_Sr) (N := 8) hx hb hts (fun w h => List.mem_cons_of_mem _ (i_Sr w h)) hown hK.1 hP 4 (wFb_o4 t a σ) rfl 4 (by decide) (hts (.fieldLink R_Sr 30 "FlatBoxes$Search" "parts" "I") (List.mem_cons_of_mem _ (gIn k_163 (by decide +kernel)))) (fun _ h9 => h9) rfl d_Sr_share_16 ?_
    refine lv_topi (fun v_9 e_9 => ?_)
    obtain rfl : nI np = v_9 := (e_9.trans (h404a)).symm
    refine lv_icmp_lt (tgt := 28) hx hb d_Sr_share_19 (by decide) (fun c_10 => ?_) (fun c_10 => ?_)
    · 
      have h_10 : q < np := (nI_ltI (a := q) (b := np) (by omega) (by omega)).mp c_10
      refine lv_iconst (v := 0) hx hb d_Sr_share_28 (by decide) ?_
      refine lv_istore_n (lv' := [(3, .int 0), (0, .ref (a 499)), (1, .int (nI q)), (2, .int (nI bx))]) hx hb d_Sr_share_29 rfl hl (by decide) rfl (fun ls hl => ?_)
      exact cut_30 (bx + 2) 0 σ _ _ _ (by omega) (by omega) (rfl) (rfl) (h404a) (by assumption) hP hD hS (lv_sub hl [1, 2, 3, 0] rfl)
    · 
      exact absurd c_10 (fun h => h (nI_lt (by omega) (by omega)))
  · 
    exact W.vret hx hb hr (fun U hU hW => ⟨⟨σ, rfl, by unfold fShr; rw [if_neg (by assumption)], by rw [hU]; exact hP, hD⟩, hS.F hU⟩) hS.2.2 d_Sr_share_13
set_option maxHeartbeats 4000000 in
set_option maxRecDepth 100000 in
theorem c_Sr_share_3 (l : Launch) (D : va_G) (t : Nat → ClassId) (a : Nat → Nat) (σ : Nat → Nat → Int32) (q bx np : Nat) (hd : q + 3 = np) (hN8 : np ≤ 8) (hbq : bx ≤ q) (h404a : σ 404 0 = nI np) (hI : fSetsOK σ q) : gMv l D t y_Sr_share b_Sr_share 4 5 [.ref (a 499), .int (nI q), .int (nI bx)] (wFb t a σ) (wFb t a) (fun u => u = fShr 3 q bx σ) := by
  intro A
  refine Met.ofW (cc := b_Sr_share) (maxL := 4) (ret := none) (by decide) rfl ?_
  intro p e s m args below meth c s₁ B hml hv
  obtain ⟨rfl, hK, hP, hD⟩ := hv
  have hx := B.exec
  have hb := B.bytes
  have hr := B.returns
  have hts := atoms_spec (ws := .code y_Sr_share b_Sr_share 4 none :: gBig) B.pre
  have hown : s.vm.findClass R_Sr = some m.cls := findClass_of_methodNamed B.named
  have hlocks := B.notSynchronized
  have hS : va_S A s.heap s.heap [] := va_S.rf
  have hl := lv_entry ([.ref (a 499), .int (nI q), .int (nI bx)]) (n := 4) (Nat.le_of_ble_eq_true rfl)
  rw [lg_entry_eq]
  generalize (lg_sl ([.ref (a 499), .int (nI q), .int (nI bx)]) ++ List.replicate (4 - (lg_sl ([.ref (a 499), .int (nI q), .int (nI bx)])).length) Slot.unset).toArray = ls at hl ⊢
  have hl : lv_has ls 4 [(0, .ref (a 499)), (1, .int (nI q)), (2, .int (nI bx))] := hl
  show gGov l p e s m below meth c D t A 5 [.ref (a 499), .int (nI q), .int (nI bx)] (wFb t a) (fun u => u = fShr 3 q bx σ) s.heap [] (F0 m 0 ls [])
  have cut_30 : ∀ (n : Nat) (k : Nat) (τ : Nat → Nat → Int32) (H : Heap) (locs : List Loc) (ls : Array Slot), (k ≤ bx + 1) → (bx + 2 ≤ k + n) → (fShL (fun k => fShr 2 (q + 1) (fMx bx (k + 1))) q k σ = τ) → (τ 402 = σ 402) → (τ 404 0 = nI np) → (nI bx * σ 405 0 < σ 406 0) → va_P D gCl (wFb t a τ) H → va_D A (wFb t a τ) → va_S A s.heap H locs → lv_has ls 4 [(0, .ref (a 499)), (1, .int (nI q)), (2, .int (nI bx)), (3, .int (nI k))] → gGov l p e s m below meth c D t A 5 [.ref (a 499), .int (nI q), .int (nI bx)] (wFb t a) (fun u => u = fShr 3 q bx σ) H locs (F0 m 30 ls []) := by
    intro n
    induction n with
    | zero =>
      intro k τ H locs ls hk hf hs h402 h404 hgo hP hD hS hl
      exact absurd hf (by omega)
    | succ n ih =>
      intro k τ H locs ls hk hf hs h402 h404 hgo hP hD hS hl
      refine lv_iload_n hx hb d_Sr_share_30 rfl (lv_at hl 3 rfl) ?_
      refine lv_iload_n hx hb d_Sr_share_31 rfl (lv_at hl 2 rfl) ?_
      refine lv_icmp_gt (tgt := 79) hx hb d_Sr_share_32 (by decide) (fun c_1 => ?_) (fun c_1 => ?_)
      · 
        have h_1 : bx < k := (nI_ltI (a := bx) (b := k) (by omega) (by omega)).mp c_1
        exact W.vret hx hb hr (fun U hU hW => ⟨⟨τ, rfl, by unfold fShr; rw [if_pos hgo]; obtain rfl : k = bx + 1 := (by omega); exact hs.symm, by rw [hU]; exact hP, hD⟩, hS.F hU⟩) hS.2.2 d_Sr_share_79
      · 
        have h_1 : ¬ bx < k := fun q9 => c_1 ((nI_ltI (a := bx) (b := k) (by omega) (by omega)).mpr q9)
        refine lv_aload_n hx hb d_Sr_share_35 rfl (lv_at hl 0 rfl) ?_
        refine va_get (D := D) (ci := 4) (v := .ref (a 402)) (C := R_Sr) (T := F_Sr) (N := 8) hx hb hts (fun w h => List.mem_cons_of_mem _ (i_Sr w h)) hown hK.1 hP 4 (wFb_o4 t a τ) rfl 2 (by decide) (hts (.fieldLink R_Sr 18 "FlatBoxes$Search" "sets" "[I") (List.mem_cons_of_mem _ (gIn k_161 (by decide +kernel)))) (fun _ h9 => h9) rfl d_Sr_share_36 ?_
        refine lv_iload_n hx hb d_Sr_share_39 rfl (lv_at hl 3 rfl) ?_
        refine lv_dup2_11 hx hb d_Sr_share_40 rfl rfl ?_
        refine g_iald hx hb hK.1 hP 29 0 (wFb_402 t a τ) rfl k (rfl) (by omega) (by decide) d_Sr_share_41 ?_
        refine lv_iconst (v := 1) hx hb d_Sr_share_42 (by decide) ?_
        refine lv_iload_n hx hb d_Sr_share_43 rfl (lv_at hl 1 rfl) ?_
        refine lv_ishl hx hb d_Sr_share_44 ?_
        refine lv_topi (fun v_2 e_2 => ?_)
        obtain rfl : fBit q = v_2 := (e_2.trans (rfl)).symm
        refine lv_ior hx hb d_Sr_share_45 ?_
        refine g_iast hx hb hK.1 hP hD hS 29 0 (wFb_402 t a τ) rfl k (rfl) (by omega) (by decide) (w' := wFb t a (gSt τ 402 k ((τ 402 k) ||| (fBit q)))) (sFb_402 t a τ k ((τ 402 k) ||| (fBit q))) d_Sr_share_46 (fun H locs hP hD hS => ?_)
        refine lv_aload_n hx hb d_Sr_share_47 rfl (lv_at hl 0 rfl) ?_
        refine lv_iload_n hx hb d_Sr_share_48 rfl (lv_at hl 1 rfl) ?_
        refine lv_iconst (v := 1) hx hb d_Sr_share_49 (by decide) ?_
        refine lv_iadd hx hb d_Sr_share_50 ?_
        refine lv_topi (fun v_3 e_3 => ?_)
        obtain rfl : nI (q + 1) = v_3 := (e_3.trans (nI_1 _)).symm
        refine lv_iload_n hx hb d_Sr_share_51 rfl (lv_at hl 2 rfl) ?_
        refine lv_iload_n hx hb d_Sr_share_52 rfl (lv_at hl 3 rfl) ?_
        refine lv_iconst (v := 1) hx hb d_Sr_share_53 (by decide) ?_
        refine lv_iadd hx hb d_Sr_share_54 ?_
        refine lv_topi (fun v_4 e_4 => ?_)
        obtain rfl : nI (k + 1) = v_4 := (e_4.trans (nI_1 _)).symm
        refine va_mmax hx hb (hml.trans hl.1.symm) hown (hts (.methodLink R_Sr 77 Lib.Math.max.name) (List.mem_cons_of_mem _ (gIn k_333 (by decide +kernel)))) (hts (.static Lib.Math.max.name) (List.mem_cons_of_mem _ (gIn k_113 (by decide +kernel)))) (hts (.initialized "java/lang/Math") (List.mem_cons_of_mem _ (gIn k_5 (by decide +kernel)))) (hts (.code Lib.Math.max.name Lib.Math.max.code 2 (some .int)) (List.mem_cons_of_mem _ (gIn k_114 (by decide +kernel)))) (Nat.le_of_ble_eq_true rfl) (Nat.le_of_ble_eq_true rfl) (Nat.zero_le _) (Nat.zero_le _) d_Sr_share_55 ?_
        refine lv_topi (fun v_5 e_5 => ?_)
        obtain rfl : nI (fMx bx (k + 1)) = v_5 := (e_5.trans (gMax (by omega) (by omega))).symm
        refine g_vv (k := 2) (As := [.int (nI (q + 1)), .int (nI (fMx bx (k + 1)))]) (rest := []) (own := R_Sr) (C := R_Sr) (index := 57) ⟨hx, hb, hml, hown, hts⟩ (c_Sr_share_2 l D t a (gSt τ 402 k ((τ 402 k) ||| (fBit q))) (q + 1) (fMx bx (k + 1)) np (by omega) hN8 (fMx_le (by omega) (by omega)) h404 (fSetsOK_or (by omega) (fSetsOK_eq h402 hI))) (gg_Sr_57 _) (by decide +kernel) ⟨Nat.le_of_ble_eq_true rfl, Nat.le_of_ble_eq_true rfl⟩ rfl (va_recv hK.1 hP (ci := 4) (q0 := 4) rfl (wFb_o4 t a (gSt τ 402 k ((τ 402 k) ||| (fBit q))))) hK hP hD hS hl.1 rfl (Nat.le_of_ble_eq_true rfl) ⟨Nat.zero_le _, Nat.zero_le _⟩ d_Sr_share_58 (fun u_6 H locs q_6 hP hD hS => ?_)
        have hu_6 : u_6 = _ := q_6
        rw [hu_6] at hP hD
        refine lv_aload_n hx hb d_Sr_share_61 rfl (lv_at hl 0 rfl) ?_
        refine va_get (D := D) (ci := 4) (v := .ref (a 402)) (C := R_Sr) (T := F_Sr) (N := 8) hx hb hts (fun w h => List.mem_cons_of_mem _ (i_Sr w h)) hown hK.1 hP 4 (wFb_o4 t a (fShr 2 (q + 1) (fMx bx (k + 1)) (gSt τ 402 k ((τ 402 k) ||| (fBit q))))) rfl 2 (by decide) (hts (.fieldLink R_Sr 18 "FlatBoxes$Search" "sets" "[I") (List.mem_cons_of_mem _ (gIn k_161 (by decide +kernel)))) (fun _ h9 => h9) rfl d_Sr_share_62 ?_
        refine lv_iload_n hx hb d_Sr_share_65 rfl (lv_at hl 3 rfl) ?_
        refine lv_dup2_11 hx hb d_Sr_share_66 rfl rfl ?_
        refine g_iald hx hb hK.1 hP 29 0 (wFb_402 t a (fShr 2 (q + 1) (fMx bx (k + 1)) (gSt τ 402 k ((τ 402 k) ||| (fBit q))))) rfl k (rfl) (by omega) (by decide) d_Sr_share_67 ?_
        refine lv_iconst (v := 1) hx hb d_Sr_share_68 (by decide) ?_
        refine lv_iload_n hx hb d_Sr_share_69 rfl (lv_at hl 1 rfl) ?_
        refine lv_ishl hx hb d_Sr_share_70 ?_
        refine lv_topi (fun v_7 e_7 => ?_)
        obtain rfl : fBit q = v_7 := (e_7.trans (rfl)).symm
        refine lv_ixor hx hb d_Sr_share_71 ?_
        refine g_iast hx hb hK.1 hP hD hS 29 0 (wFb_402 t a (fShr 2 (q + 1) (fMx bx (k + 1)) (gSt τ 402 k ((τ 402 k) ||| (fBit q))))) rfl k (rfl) (by omega) (by decide) (w' := wFb t a (gSt (fShr 2 (q + 1) (fMx bx (k + 1)) (gSt τ 402 k ((τ 402 k) ||| (fBit q)))) 402 k (((fShr 2 (q + 1) (fMx bx (k + 1)) (gSt τ 402 k ((τ 402 k) ||| (fBit q)))) 402 k) ^^^ (fBit q)))) (sFb_402 t a (fShr 2 (q + 1) (fMx bx (k + 1)) (gSt τ 402 k ((τ 402 k) ||| (fBit q)))) k (((fShr 2 (q + 1) (fMx bx (k + 1)) (gSt τ 402 k ((τ 402 k) ||| (fBit q)))) 402 k) ^^^ (fBit q))) d_Sr_share_72 (fun H locs hP hD hS => ?_)
        refine lv_iinc (v := nI (k + 1)) (lv' := [(3, .int (nI (k + 1))), (0, .ref (a 499)), (1, .int (nI q)), (2, .int (nI bx))]) hx hb d_Sr_share_73 hl (k := 3) rfl (nI_1 k) (by decide) rfl (fun ls hl => ?_)
        refine lv_goto (tgt := 30) hx hb d_Sr_share_76 (by decide) ?_
        exact ih (k + 1) (gSt (fShr 2 (q + 1) (fMx bx (k + 1)) (gSt τ 402 k ((τ 402 k) ||| (fBit q)))) 402 k (((fShr 2 (q + 1) (fMx bx (k + 1)) (gSt τ 402 k ((τ 402 k) ||| (fBit q)))) 402 k) ^^^ (fBit q))) _ _ _ (by omega) (by omega) (by rw [← hs]; rfl) ((fBack_402 (by omega) (by omega) (fSetsOK_eq h402 hI) (fShr_402 2 (q + 1) (fMx bx (k + 1)) _ (by omega) (fMx_le (by omega) (by omega)) (fSetsOK_or (by omega) (fSetsOK_eq h402 hI)))).trans h402) ((congrFun ((gSt_ne _ _ _ _ (by decide)).trans (fShr_fix (by decide) (by decide) (by decide) (by decide) _ _ _ _)) 0).trans h404) (hgo) hP hD hS (lv_sub hl [1, 2, 3, 0] rfl)
  refine lv_iload_n hx hb d_Sr_share_0 rfl (lv_at hl 2 rfl) ?_
  refine lv_aload_n hx hb d_Sr_share_1 rfl (lv_at hl 0 rfl) ?_
  refine va_get (D := D) (ci := 4) (v := .int (σ 405 0)) (C := R_Sr) (T := F_Sr) (N := 8) hx hb hts (fun w h => List.mem_cons_of_mem _ (i_Sr w h)) hown hK.1 hP 4 (wFb_o4 t a σ) rfl 5 (by decide) (hts (.fieldLink R_Sr 34 "FlatBoxes$Search" "leastPrice" "I") (List.mem_cons_of_mem _ (gIn k_164 (by decide +kernel)))) (fun _ h9 => h9) rfl d_Sr_share_2 ?_
  refine lv_imul hx hb d_Sr_share_5 ?_
  refine lv_aload_n hx hb d_Sr_share_6 rfl (lv_at hl 0 rfl) ?_
  refine va_get (D := D) (ci := 4) (v := .int (σ 406 0)) (C := R_Sr) (T := F_Sr) (N := 8) hx hb hts (fun w h => List.mem_cons_of_mem _ (i_Sr w h)) hown hK.1 hP 4 (wFb_o4 t a σ) rfl 6 (by decide) (hts (.fieldLink R_Sr 51 "FlatBoxes$Search" "bestPrice" "I") (List.mem_cons_of_mem _ (gIn k_165 (by decide +kernel)))) (fun _ h9 => h9) rfl d_Sr_share_7 ?_
  refine lv_icmp_lt (tgt := 14) hx hb d_Sr_share_10 (by decide) (fun c_8 => ?_) (fun c_8 => ?_)
  · 
    refine lv_iload_n hx hb d_Sr_share_14 rfl (lv_at hl 1 rfl) ?_
    refine lv_aload_n hx hb d_Sr_share_15 rfl (lv_at hl 0 rfl) ?_
    refine va_get (D := D) (ci := 4) (v := .int (σ 404 0)) (C := R_Sr) (T := F_Sr) (N := 8) hx hb hts (fun w h => List.mem_cons_of_mem _ (i_Sr w h)) hown hK.1 hP 4 (wFb_o4 t a σ) rfl 4 (by decide) (hts (.fieldLink R_Sr 30 "FlatBoxes$Search" "parts" "I") (List.mem_cons_of_mem _ (gIn k_163 (by decide +kernel)))) (fun _ h9 => h9) rfl d_Sr_share_16 ?_
    refine lv_topi (fun v_9 e_9 => ?_)
    obtain rfl : nI np = v_9 := (e_9.trans (h404a)).symm
    refine lv_icmp_lt (tgt := 28) hx hb d_Sr_share_19 (by decide) (fun c_10 => ?_) (fun c_10 => ?_)
    · 
      have h_10 : q < np := (nI_ltI (a := q) (b := np) (by omega) (by omega)).mp c_10
      refine lv_iconst (v := 0) hx hb d_Sr_share_28 (by decide) ?_
      refine lv_istore_n (lv' := [(3, .int 0), (0, .ref (a 499)), (1, .int (nI q)), (2, .int (nI bx))]) hx hb d_Sr_share_29 rfl hl (by decide) rfl (fun ls hl => ?_)
      exact cut_30 (bx + 2) 0 σ _ _ _ (by omega) (by omega) (rfl) (rfl) (h404a) (by assumption) hP hD hS (lv_sub hl [1, 2, 3, 0] rfl)
    · 
      exact absurd c_10 (fun h => h (nI_lt (by omega) (by omega)))
  · 
    exact W.vret hx hb hr (fun U hU hW => ⟨⟨σ, rfl, by unfold fShr; rw [if_neg (by assumption)], by rw [hU]; exact hP, hD⟩, hS.F hU⟩) hS.2.2 d_Sr_share_13
set_option maxHeartbeats 4000000 in
set_option maxRecDepth 100000 in
theorem c_Sr_share_4 (l : Launch) (D : va_G) (t : Nat → ClassId) (a : Nat → Nat) (σ : Nat → Nat → Int32) (q bx np : Nat) (hd : q + 4 = np) (hN8 : np ≤ 8) (hbq : bx ≤ q) (h404a : σ 404 0 = nI np) (hI : fSetsOK σ q) : gMv l D t y_Sr_share b_Sr_share 4 6 [.ref (a 499), .int (nI q), .int (nI bx)] (wFb t a σ) (wFb t a) (fun u => u = fShr 4 q bx σ) := by
  intro A
  refine Met.ofW (cc := b_Sr_share) (maxL := 4) (ret := none) (by decide) rfl ?_
  intro p e s m args below meth c s₁ B hml hv
  obtain ⟨rfl, hK, hP, hD⟩ := hv
  have hx := B.exec
  have hb := B.bytes
  have hr := B.returns
  have hts := atoms_spec (ws := .code y_Sr_share b_Sr_share 4 none :: gBig) B.pre
  have hown : s.vm.findClass R_Sr = some m.cls := findClass_of_methodNamed B.named
  have hlocks := B.notSynchronized
  have hS : va_S A s.heap s.heap [] := va_S.rf
  have hl := lv_entry ([.ref (a 499), .int (nI q), .int (nI bx)]) (n := 4) (Nat.le_of_ble_eq_true rfl)
  rw [lg_entry_eq]
  generalize (lg_sl ([.ref (a 499), .int (nI q), .int (nI bx)]) ++ List.replicate (4 - (lg_sl ([.ref (a 499), .int (nI q), .int (nI bx)])).length) Slot.unset).toArray = ls at hl ⊢
  have hl : lv_has ls 4 [(0, .ref (a 499)), (1, .int (nI q)), (2, .int (nI bx))] := hl
  show gGov l p e s m below meth c D t A 6 [.ref (a 499), .int (nI q), .int (nI bx)] (wFb t a) (fun u => u = fShr 4 q bx σ) s.heap [] (F0 m 0 ls [])
  have cut_30 : ∀ (n : Nat) (k : Nat) (τ : Nat → Nat → Int32) (H : Heap) (locs : List Loc) (ls : Array Slot), (k ≤ bx + 1) → (bx + 2 ≤ k + n) → (fShL (fun k => fShr 3 (q + 1) (fMx bx (k + 1))) q k σ = τ) → (τ 402 = σ 402) → (τ 404 0 = nI np) → (nI bx * σ 405 0 < σ 406 0) → va_P D gCl (wFb t a τ) H → va_D A (wFb t a τ) → va_S A s.heap H locs → lv_has ls 4 [(0, .ref (a 499)), (1, .int (nI q)), (2, .int (nI bx)), (3, .int (nI k))] → gGov l p e s m below meth c D t A 6 [.ref (a 499), .int (nI q), .int (nI bx)] (wFb t a) (fun u => u = fShr 4 q bx σ) H locs (F0 m 30 ls []) := by
    intro n
    induction n with
    | zero =>
      intro k τ H locs ls hk hf hs h402 h404 hgo hP hD hS hl
      exact absurd hf (by omega)
    | succ n ih =>
      intro k τ H locs ls hk hf hs h402 h404 hgo hP hD hS hl
      refine lv_iload_n hx hb d_Sr_share_30 rfl (lv_at hl 3 rfl) ?_
      refine lv_iload_n hx hb d_Sr_share_31 rfl (lv_at hl 2 rfl) ?_
      refine lv_icmp_gt (tgt := 79) hx hb d_Sr_share_32 (by decide) (fun c_1 => ?_) (fun c_1 => ?_)
      · 
        have h_1 : bx < k := (nI_ltI (a := bx) (b := k) (by omega) (by omega)).mp c_1
        exact W.vret hx hb hr (fun U hU hW => ⟨⟨τ, rfl, by unfold fShr; rw [if_pos hgo]; obtain rfl : k = bx + 1 := (by omega); exact hs.symm, by rw [hU]; exact hP, hD⟩, hS.F hU⟩) hS.2.2 d_Sr_share_79
      · 
        have h_1 : ¬ bx < k := fun q9 => c_1 ((nI_ltI (a := bx) (b := k) (by omega) (by omega)).mpr q9)
        refine lv_aload_n hx hb d_Sr_share_35 rfl (lv_at hl 0 rfl) ?_
        refine va_get (D := D) (ci := 4) (v := .ref (a 402)) (C := R_Sr) (T := F_Sr) (N := 8) hx hb hts (fun w h => List.mem_cons_of_mem _ (i_Sr w h)) hown hK.1 hP 4 (wFb_o4 t a τ) rfl 2 (by decide) (hts (.fieldLink R_Sr 18 "FlatBoxes$Search" "sets" "[I") (List.mem_cons_of_mem _ (gIn k_161 (by decide +kernel)))) (fun _ h9 => h9) rfl d_Sr_share_36 ?_
        refine lv_iload_n hx hb d_Sr_share_39 rfl (lv_at hl 3 rfl) ?_
        refine lv_dup2_11 hx hb d_Sr_share_40 rfl rfl ?_
        refine g_iald hx hb hK.1 hP 29 0 (wFb_402 t a τ) rfl k (rfl) (by omega) (by decide) d_Sr_share_41 ?_
        refine lv_iconst (v := 1) hx hb d_Sr_share_42 (by decide) ?_
        refine lv_iload_n hx hb d_Sr_share_43 rfl (lv_at hl 1 rfl) ?_
        refine lv_ishl hx hb d_Sr_share_44 ?_
        refine lv_topi (fun v_2 e_2 => ?_)
        obtain rfl : fBit q = v_2 := (e_2.trans (rfl)).symm
        refine lv_ior hx hb d_Sr_share_45 ?_
        refine g_iast hx hb hK.1 hP hD hS 29 0 (wFb_402 t a τ) rfl k (rfl) (by omega) (by decide) (w' := wFb t a (gSt τ 402 k ((τ 402 k) ||| (fBit q)))) (sFb_402 t a τ k ((τ 402 k) ||| (fBit q))) d_Sr_share_46 (fun H locs hP hD hS => ?_)
        refine lv_aload_n hx hb d_Sr_share_47 rfl (lv_at hl 0 rfl) ?_
        refine lv_iload_n hx hb d_Sr_share_48 rfl (lv_at hl 1 rfl) ?_
        refine lv_iconst (v := 1) hx hb d_Sr_share_49 (by decide) ?_
        refine lv_iadd hx hb d_Sr_share_50 ?_
        refine lv_topi (fun v_3 e_3 => ?_)
        obtain rfl : nI (q + 1) = v_3 := (e_3.trans (nI_1 _)).symm
        refine lv_iload_n hx hb d_Sr_share_51 rfl (lv_at hl 2 rfl) ?_
        refine lv_iload_n hx hb d_Sr_share_52 rfl (lv_at hl 3 rfl) ?_
        refine lv_iconst (v := 1) hx hb d_Sr_share_53 (by decide) ?_
        refine lv_iadd hx hb d_Sr_share_54 ?_
        refine lv_topi (fun v_4 e_4 => ?_)
        obtain rfl : nI (k + 1) = v_4 := (e_4.trans (nI_1 _)).symm
        refine va_mmax hx hb (hml.trans hl.1.symm) hown (hts (.methodLink R_Sr 77 Lib.Math.max.name) (List.mem_cons_of_mem _ (gIn k_333 (by decide +kernel)))) (hts (.static Lib.Math.max.name) (List.mem_cons_of_mem _ (gIn k_113 (by decide +kernel)))) (hts (.initialized "java/lang/Math") (List.mem_cons_of_mem _ (gIn k_5 (by decide +kernel)))) (hts (.code Lib.Math.max.name Lib.Math.max.code 2 (some .int)) (List.mem_cons_of_mem _ (gIn k_114 (by decide +kernel)))) (Nat.le_of_ble_eq_true rfl) (Nat.le_of_ble_eq_true rfl) (Nat.zero_le _) (Nat.zero_le _) d_Sr_share_55 ?_
        refine lv_topi (fun v_5 e_5 => ?_)
        obtain rfl : nI (fMx bx (k + 1)) = v_5 := (e_5.trans (gMax (by omega) (by omega))).symm
        refine g_vv (k := 2) (As := [.int (nI (q + 1)), .int (nI (fMx bx (k + 1)))]) (rest := []) (own := R_Sr) (C := R_Sr) (index := 57) ⟨hx, hb, hml, hown, hts⟩ (c_Sr_share_3 l D t a (gSt τ 402 k ((τ 402 k) ||| (fBit q))) (q + 1) (fMx bx (k + 1)) np (by omega) hN8 (fMx_le (by omega) (by omega)) h404 (fSetsOK_or (by omega) (fSetsOK_eq h402 hI))) (gg_Sr_57 _) (by decide +kernel) ⟨Nat.le_of_ble_eq_true rfl, Nat.le_of_ble_eq_true rfl⟩ rfl (va_recv hK.1 hP (ci := 4) (q0 := 4) rfl (wFb_o4 t a (gSt τ 402 k ((τ 402 k) ||| (fBit q))))) hK hP hD hS hl.1 rfl (Nat.le_of_ble_eq_true rfl) ⟨Nat.zero_le _, Nat.zero_le _⟩ d_Sr_share_58 (fun u_6 H locs q_6 hP hD hS => ?_)
        have hu_6 : u_6 = _ := q_6
        rw [hu_6] at hP hD
        refine lv_aload_n hx hb d_Sr_share_61 rfl (lv_at hl 0 rfl) ?_
        refine va_get (D := D) (ci := 4) (v := .ref (a 402)) (C := R_Sr) (T := F_Sr) (N := 8) hx hb hts (fun w h => List.mem_cons_of_mem _ (i_Sr w h)) hown hK.1 hP 4 (wFb_o4 t a (fShr 3 (q + 1) (fMx bx (k + 1)) (gSt τ 402 k ((τ 402 k) ||| (fBit q))))) rfl 2 (by decide) (hts (.fieldLink R_Sr 18 "FlatBoxes$Search" "sets" "[I") (List.mem_cons_of_mem _ (gIn k_161 (by decide +kernel)))) (fun _ h9 => h9) rfl d_Sr_share_62 ?_
        refine lv_iload_n hx hb d_Sr_share_65 rfl (lv_at hl 3 rfl) ?_
        refine lv_dup2_11 hx hb d_Sr_share_66 rfl rfl ?_
        refine g_iald hx hb hK.1 hP 29 0 (wFb_402 t a (fShr 3 (q + 1) (fMx bx (k + 1)) (gSt τ 402 k ((τ 402 k) ||| (fBit q))))) rfl k (rfl) (by omega) (by decide) d_Sr_share_67 ?_
        refine lv_iconst (v := 1) hx hb d_Sr_share_68 (by decide) ?_
        refine lv_iload_n hx hb d_Sr_share_69 rfl (lv_at hl 1 rfl) ?_
        refine lv_ishl hx hb d_Sr_share_70 ?_
        refine lv_topi (fun v_7 e_7 => ?_)
        obtain rfl : fBit q = v_7 := (e_7.trans (rfl)).symm
        refine lv_ixor hx hb d_Sr_share_71 ?_
        refine g_iast hx hb hK.1 hP hD hS 29 0 (wFb_402 t a (fShr 3 (q + 1) (fMx bx (k + 1)) (gSt τ 402 k ((τ 402 k) ||| (fBit q))))) rfl k (rfl) (by omega) (by decide) (w' := wFb t a (gSt (fShr 3 (q + 1) (fMx bx (k + 1)) (gSt τ 402 k ((τ 402 k) ||| (fBit q)))) 402 k (((fShr 3 (q + 1) (fMx bx (k + 1)) (gSt τ 402 k ((τ 402 k) ||| (fBit q)))) 402 k) ^^^ (fBit q)))) (sFb_402 t a (fShr 3 (q + 1) (fMx bx (k + 1)) (gSt τ 402 k ((τ 402 k) ||| (fBit q)))) k (((fShr 3 (q + 1) (fMx bx (k + 1)) (gSt τ 402 k ((τ 402 k) ||| (fBit q)))) 402 k) ^^^ (fBit q))) d_Sr_share_72 (fun H locs hP hD hS => ?_)
        refine lv_iinc (v := nI (k + 1)) (lv' := [(3, .int (nI (k + 1))), (0, .ref (a 499)), (1, .int (nI q)), (2, .int (nI bx))]) hx hb d_Sr_share_73 hl (k := 3) rfl (nI_1 k) (by decide) rfl (fun ls hl => ?_)
        refine lv_goto (tgt := 30) hx hb d_Sr_share_76 (by decide) ?_
        exact ih (k + 1) (gSt (fShr 3 (q + 1) (fMx bx (k + 1)) (gSt τ 402 k ((τ 402 k) ||| (fBit q)))) 402 k (((fShr 3 (q + 1) (fMx bx (k + 1)) (gSt τ 402 k ((τ 402 k) ||| (fBit q)))) 402 k) ^^^ (fBit q))) _ _ _ (by omega) (by omega) (by rw [← hs]; rfl) ((fBack_402 (by omega) (by omega) (fSetsOK_eq h402 hI) (fShr_402 3 (q + 1) (fMx bx (k + 1)) _ (by omega) (fMx_le (by omega) (by omega)) (fSetsOK_or (by omega) (fSetsOK_eq h402 hI)))).trans h402) ((congrFun ((gSt_ne _ _ _ _ (by decide)).trans (fShr_fix (by decide) (by decide) (by decide) (by decide) _ _ _ _)) 0).trans h404) (hgo) hP hD hS (lv_sub hl [1, 2, 3, 0] rfl)
  refine lv_iload_n hx hb d_Sr_share_0 rfl (lv_at hl 2 rfl) ?_
  refine lv_aload_n hx hb d_Sr_share_1 rfl (lv_at hl 0 rfl) ?_
  refine va_get (D := D) (ci := 4) (v := .int (σ 405 0)) (C := R_Sr) (T := F_Sr) (N := 8) hx hb hts (fun w h => List.mem_cons_of_mem _ (i_Sr w h)) hown hK.1 hP 4 (wFb_o4 t a σ) rfl 5 (by decide) (hts (.fieldLink R_Sr 34 "FlatBoxes$Search" "leastPrice" "I") (List.mem_cons_of_mem _ (gIn k_164 (by decide +kernel)))) (fun _ h9 => h9) rfl d_Sr_share_2 ?_
  refine lv_imul hx hb d_Sr_share_5 ?_
  refine lv_aload_n hx hb d_Sr_share_6 rfl (lv_at hl 0 rfl) ?_
  refine va_get (D := D) (ci := 4) (v := .int (σ 406 0)) (C := R_Sr) (T := F_Sr) (N := 8) hx hb hts (fun w h => List.mem_cons_of_mem _ (i_Sr w h)) hown hK.1 hP 4 (wFb_o4 t a σ) rfl 6 (by decide) (hts (.fieldLink R_Sr 51 "FlatBoxes$Search" "bestPrice" "I") (List.mem_cons_of_mem _ (gIn k_165 (by decide +kernel)))) (fun _ h9 => h9) rfl d_Sr_share_7 ?_
  refine lv_icmp_lt (tgt := 14) hx hb d_Sr_share_10 (by decide) (fun c_8 => ?_) (fun c_8 => ?_)
  · 
    refine lv_iload_n hx hb d_Sr_share_14 rfl (lv_at hl 1 rfl) ?_
    refine lv_aload_n hx hb d_Sr_share_15 rfl (lv_at hl 0 rfl) ?_
    refine va_get (D := D) (ci := 4) (v := .int (σ 404 0)) (C := R_Sr) (T := F_Sr) (N := 8) hx hb hts (fun w h => List.mem_cons_of_mem _ (i_Sr w h)) hown hK.1 hP 4 (wFb_o4 t a σ) rfl 4 (by decide) (hts (.fieldLink R_Sr 30 "FlatBoxes$Search" "parts" "I") (List.mem_cons_of_mem _ (gIn k_163 (by decide +kernel)))) (fun _ h9 => h9) rfl d_Sr_share_16 ?_
    refine lv_topi (fun v_9 e_9 => ?_)
    obtain rfl : nI np = v_9 := (e_9.trans (h404a)).symm
    refine lv_icmp_lt (tgt := 28) hx hb d_Sr_share_19 (by decide) (fun c_10 => ?_) (fun c_10 => ?_)
    · 
      have h_10 : q < np := (nI_ltI (a := q) (b := np) (by omega) (by omega)).mp c_10
      refine lv_iconst (v := 0) hx hb d_Sr_share_28 (by decide) ?_
      refine lv_istore_n (lv' := [(3, .int 0), (0, .ref (a 499)), (1, .int (nI q)), (2, .int (nI bx))]) hx hb d_Sr_share_29 rfl hl (by decide) rfl (fun ls hl => ?_)
      exact cut_30 (bx + 2) 0 σ _ _ _ (by omega) (by omega) (rfl) (rfl) (h404a) (by assumption) hP hD hS (lv_sub hl [1, 2, 3, 0] rfl)
    · 
      exact absurd c_10 (fun h => h (nI_lt (by omega) (by omega)))
  · 
    exact W.vret hx hb hr (fun U hU hW => ⟨⟨σ, rfl, by unfold fShr; rw [if_neg (by assumption)], by rw [hU]; exact hP, hD⟩, hS.F hU⟩) hS.2.2 d_Sr_share_13
set_option maxHeartbeats 4000000 in
set_option maxRecDepth 100000 in
theorem c_Sr_share_5 (l : Launch) (D : va_G) (t : Nat → ClassId) (a : Nat → Nat) (σ : Nat → Nat → Int32) (q bx np : Nat) (hd : q + 5 = np) (hN8 : np ≤ 8) (hbq : bx ≤ q) (h404a : σ 404 0 = nI np) (hI : fSetsOK σ q) : gMv l D t y_Sr_share b_Sr_share 4 7 [.ref (a 499), .int (nI q), .int (nI bx)] (wFb t a σ) (wFb t a) (fun u => u = fShr 5 q bx σ) := by
  intro A
  refine Met.ofW (cc := b_Sr_share) (maxL := 4) (ret := none) (by decide) rfl ?_
  intro p e s m args below meth c s₁ B hml hv
  obtain ⟨rfl, hK, hP, hD⟩ := hv
  have hx := B.exec
  have hb := B.bytes
  have hr := B.returns
  have hts := atoms_spec (ws := .code y_Sr_share b_Sr_share 4 none :: gBig) B.pre
  have hown : s.vm.findClass R_Sr = some m.cls := findClass_of_methodNamed B.named
  have hlocks := B.notSynchronized
  have hS : va_S A s.heap s.heap [] := va_S.rf
  have hl := lv_entry ([.ref (a 499), .int (nI q), .int (nI bx)]) (n := 4) (Nat.le_of_ble_eq_true rfl)
  rw [lg_entry_eq]
  generalize (lg_sl ([.ref (a 499), .int (nI q), .int (nI bx)]) ++ List.replicate (4 - (lg_sl ([.ref (a 499), .int (nI q), .int (nI bx)])).length) Slot.unset).toArray = ls at hl ⊢
  have hl : lv_has ls 4 [(0, .ref (a 499)), (1, .int (nI q)), (2, .int (nI bx))] := hl
  show gGov l p e s m below meth c D t A 7 [.ref (a 499), .int (nI q), .int (nI bx)] (wFb t a) (fun u => u = fShr 5 q bx σ) s.heap [] (F0 m 0 ls [])
  have cut_30 : ∀ (n : Nat) (k : Nat) (τ : Nat → Nat → Int32) (H : Heap) (locs : List Loc) (ls : Array Slot), (k ≤ bx + 1) → (bx + 2 ≤ k + n) → (fShL (fun k => fShr 4 (q + 1) (fMx bx (k + 1))) q k σ = τ) → (τ 402 = σ 402) → (τ 404 0 = nI np) → (nI bx * σ 405 0 < σ 406 0) → va_P D gCl (wFb t a τ) H → va_D A (wFb t a τ) → va_S A s.heap H locs → lv_has ls 4 [(0, .ref (a 499)), (1, .int (nI q)), (2, .int (nI bx)), (3, .int (nI k))] → gGov l p e s m below meth c D t A 7 [.ref (a 499), .int (nI q), .int (nI bx)] (wFb t a) (fun u => u = fShr 5 q bx σ) H locs (F0 m 30 ls []) := by
    intro n
    induction n with
    | zero =>
      intro k τ H locs ls hk hf hs h402 h404 hgo hP hD hS hl
      exact absurd hf (by omega)
    | succ n ih =>
      intro k τ H locs ls hk hf hs h402 h404 hgo hP hD hS hl
      refine lv_iload_n hx hb d_Sr_share_30 rfl (lv_at hl 3 rfl) ?_
      refine lv_iload_n hx hb d_Sr_share_31 rfl (lv_at hl 2 rfl) ?_
      refine lv_icmp_gt (tgt := 79) hx hb d_Sr_share_32 (by decide) (fun c_1 => ?_) (fun c_1 => ?_)
      · 
        have h_1 : bx < k := (nI_ltI (a := bx) (b := k) (by omega) (by omega)).mp c_1
        exact W.vret hx hb hr (fun U hU hW => ⟨⟨τ, rfl, by unfold fShr; rw [if_pos hgo]; obtain rfl : k = bx + 1 := (by omega); exact hs.symm, by rw [hU]; exact hP, hD⟩, hS.F hU⟩) hS.2.2 d_Sr_share_79
      · 
        have h_1 : ¬ bx < k := fun q9 => c_1 ((nI_ltI (a := bx) (b := k) (by omega) (by omega)).mpr q9)
        refine lv_aload_n hx hb d_Sr_share_35 rfl (lv_at hl 0 rfl) ?_
        refine va_get (D := D) (ci := 4) (v := .ref (a 402)) (C := R_Sr) (T := F_Sr) (N := 8) hx hb hts (fun w h => List.mem_cons_of_mem _ (i_Sr w h)) hown hK.1 hP 4 (wFb_o4 t a τ) rfl 2 (by decide) (hts (.fieldLink R_Sr 18 "FlatBoxes$Search" "sets" "[I") (List.mem_cons_of_mem _ (gIn k_161 (by decide +kernel)))) (fun _ h9 => h9) rfl d_Sr_share_36 ?_
        refine lv_iload_n hx hb d_Sr_share_39 rfl (lv_at hl 3 rfl) ?_
        refine lv_dup2_11 hx hb d_Sr_share_40 rfl rfl ?_
        refine g_iald hx hb hK.1 hP 29 0 (wFb_402 t a τ) rfl k (rfl) (by omega) (by decide) d_Sr_share_41 ?_
        refine lv_iconst (v := 1) hx hb d_Sr_share_42 (by decide) ?_
        refine lv_iload_n hx hb d_Sr_share_43 rfl (lv_at hl 1 rfl) ?_
        refine lv_ishl hx hb d_Sr_share_44 ?_
        refine lv_topi (fun v_2 e_2 => ?_)
        obtain rfl : fBit q = v_2 := (e_2.trans (rfl)).symm
        refine lv_ior hx hb d_Sr_share_45 ?_
        refine g_iast hx hb hK.1 hP hD hS 29 0 (wFb_402 t a τ) rfl k (rfl) (by omega) (by decide) (w' := wFb t a (gSt τ 402 k ((τ 402 k) ||| (fBit q)))) (sFb_402 t a τ k ((τ 402 k) ||| (fBit q))) d_Sr_share_46 (fun H locs hP hD hS => ?_)
        refine lv_aload_n hx hb d_Sr_share_47 rfl (lv_at hl 0 rfl) ?_
        refine lv_iload_n hx hb d_Sr_share_48 rfl (lv_at hl 1 rfl) ?_
        refine lv_iconst (v := 1) hx hb d_Sr_share_49 (by decide) ?_
        refine lv_iadd hx hb d_Sr_share_50 ?_
        refine lv_topi (fun v_3 e_3 => ?_)
        obtain rfl : nI (q + 1) = v_3 := (e_3.trans (nI_1 _)).symm
        refine lv_iload_n hx hb d_Sr_share_51 rfl (lv_at hl 2 rfl) ?_
        refine lv_iload_n hx hb d_Sr_share_52 rfl (lv_at hl 3 rfl) ?_
        refine lv_iconst (v := 1) hx hb d_Sr_share_53 (by decide) ?_
        refine lv_iadd hx hb d_Sr_share_54 ?_
        refine lv_topi (fun v_4 e_4 => ?_)
        obtain rfl : nI (k + 1) = v_4 := (e_4.trans (nI_1 _)).symm
        refine va_mmax hx hb (hml.trans hl.1.symm) hown (hts (.methodLink R_Sr 77 Lib.Math.max.name) (List.mem_cons_of_mem _ (gIn k_333 (by decide +kernel)))) (hts (.static Lib.Math.max.name) (List.mem_cons_of_mem _ (gIn k_113 (by decide +kernel)))) (hts (.initialized "java/lang/Math") (List.mem_cons_of_mem _ (gIn k_5 (by decide +kernel)))) (hts (.code Lib.Math.max.name Lib.Math.max.code 2 (some .int)) (List.mem_cons_of_mem _ (gIn k_114 (by decide +kernel)))) (Nat.le_of_ble_eq_true rfl) (Nat.le_of_ble_eq_true rfl) (Nat.zero_le _) (Nat.zero_le _) d_Sr_share_55 ?_
        refine lv_topi (fun v_5 e_5 => ?_)
        obtain rfl : nI (fMx bx (k + 1)) = v_5 := (e_5.trans (gMax (by omega) (by omega))).symm
        refine g_vv (k := 2) (As := [.int (nI (q + 1)), .int (nI (fMx bx (k + 1)))]) (rest := []) (own := R_Sr) (C := R_Sr) (index := 57) ⟨hx, hb, hml, hown, hts⟩ (c_Sr_share_4 l D t a (gSt τ 402 k ((τ 402 k) ||| (fBit q))) (q + 1) (fMx bx (k + 1)) np (by omega) hN8 (fMx_le (by omega) (by omega)) h404 (fSetsOK_or (by omega) (fSetsOK_eq h402 hI))) (gg_Sr_57 _) (by decide +kernel) ⟨Nat.le_of_ble_eq_true rfl, Nat.le_of_ble_eq_true rfl⟩ rfl (va_recv hK.1 hP (ci := 4) (q0 := 4) rfl (wFb_o4 t a (gSt τ 402 k ((τ 402 k) ||| (fBit q))))) hK hP hD hS hl.1 rfl (Nat.le_of_ble_eq_true rfl) ⟨Nat.zero_le _, Nat.zero_le _⟩ d_Sr_share_58 (fun u_6 H locs q_6 hP hD hS => ?_)
        have hu_6 : u_6 = _ := q_6
        rw [hu_6] at hP hD
        refine lv_aload_n hx hb d_Sr_share_61 rfl (lv_at hl 0 rfl) ?_
        refine va_get (D := D) (ci := 4) (v := .ref (a 402)) (C := R_Sr) (T := F_Sr) (N := 8) hx hb hts (fun w h => List.mem_cons_of_mem _ (i_Sr w h)) hown hK.1 hP 4 (wFb_o4 t a (fShr 4 (q + 1) (fMx bx (k + 1)) (gSt τ 402 k ((τ 402 k) ||| (fBit q))))) rfl 2 (by decide) (hts (.fieldLink R_Sr 18 "FlatBoxes$Search" "sets" "[I") (List.mem_cons_of_mem _ (gIn k_161 (by decide +kernel)))) (fun _ h9 => h9) rfl d_Sr_share_62 ?_
        refine lv_iload_n hx hb d_Sr_share_65 rfl (lv_at hl 3 rfl) ?_
        refine lv_dup2_11 hx hb d_Sr_share_66 rfl rfl ?_
        refine g_iald hx hb hK.1 hP 29 0 (wFb_402 t a (fShr 4 (q + 1) (fMx bx (k + 1)) (gSt τ 402 k ((τ 402 k) ||| (fBit q))))) rfl k (rfl) (by omega) (by decide) d_Sr_share_67 ?_
        refine lv_iconst (v := 1) hx hb d_Sr_share_68 (by decide) ?_
        refine lv_iload_n hx hb d_Sr_share_69 rfl (lv_at hl 1 rfl) ?_
        refine lv_ishl hx hb d_Sr_share_70 ?_
        refine lv_topi (fun v_7 e_7 => ?_)
        obtain rfl : fBit q = v_7 := (e_7.trans (rfl)).symm
        refine lv_ixor hx hb d_Sr_share_71 ?_
        refine g_iast hx hb hK.1 hP hD hS 29 0 (wFb_402 t a (fShr 4 (q + 1) (fMx bx (k + 1)) (gSt τ 402 k ((τ 402 k) ||| (fBit q))))) rfl k (rfl) (by omega) (by decide) (w' := wFb t a (gSt (fShr 4 (q + 1) (fMx bx (k + 1)) (gSt τ 402 k ((τ 402 k) ||| (fBit q)))) 402 k (((fShr 4 (q + 1) (fMx bx (k + 1)) (gSt τ 402 k ((τ 402 k) ||| (fBit q)))) 402 k) ^^^ (fBit q)))) (sFb_402 t a (fShr 4 (q + 1) (fMx bx (k + 1)) (gSt τ 402 k ((τ 402 k) ||| (fBit q)))) k (((fShr 4 (q + 1) (fMx bx (k + 1)) (gSt τ 402 k ((τ 402 k) ||| (fBit q)))) 402 k) ^^^ (fBit q))) d_Sr_share_72 (fun H locs hP hD hS => ?_)
        refine lv_iinc (v := nI (k + 1)) (lv' := [(3, .int (nI (k + 1))), (0, .ref (a 499)), (1, .int (nI q)), (2, .int (nI bx))]) hx hb d_Sr_share_73 hl (k := 3) rfl (nI_1 k) (by decide) rfl (fun ls hl => ?_)
        refine lv_goto (tgt := 30) hx hb d_Sr_share_76 (by decide) ?_
        exact ih (k + 1) (gSt (fShr 4 (q + 1) (fMx bx (k + 1)) (gSt τ 402 k ((τ 402 k) ||| (fBit q)))) 402 k (((fShr 4 (q + 1) (fMx bx (k + 1)) (gSt τ 402 k ((τ 402 k) ||| (fBit q)))) 402 k) ^^^ (fBit q))) _ _ _ (by omega) (by omega) (by rw [← hs]; rfl) ((fBack_402 (by omega) (by omega) (fSetsOK_eq h402 hI) (fShr_402 4 (q + 1) (fMx bx (k + 1)) _ (by omega) (fMx_le (by omega) (by omega)) (fSetsOK_or (by omega) (fSetsOK_eq h402 hI)))).trans h402) ((congrFun ((gSt_ne _ _ _ _ (by decide)).trans (fShr_fix (by decide) (by decide) (by decide) (by decide) _ _ _ _)) 0).trans h404) (hgo) hP hD hS (lv_sub hl [1, 2, 3, 0] rfl)
  refine lv_iload_n hx hb d_Sr_share_0 rfl (lv_at hl 2 rfl) ?_
  refine lv_aload_n hx hb d_Sr_share_1 rfl (lv_at hl 0 rfl) ?_
  refine va_get (D := D) (ci := 4) (v := .int (σ 405 0)) (C := R_Sr) (T := F_Sr) (N := 8) hx hb hts (fun w h => List.mem_cons_of_mem _ (i_Sr w h)) hown hK.1 hP 4 (wFb_o4 t a σ) rfl 5 (by decide) (hts (.fieldLink R_Sr 34 "FlatBoxes$Search" "leastPrice" "I") (List.mem_cons_of_mem _ (gIn k_164 (by decide +kernel)))) (fun _ h9 => h9) rfl d_Sr_share_2 ?_
  refine lv_imul hx hb d_Sr_share_5 ?_
  refine lv_aload_n hx hb d_Sr_share_6 rfl (lv_at hl 0 rfl) ?_
  refine va_get (D := D) (ci := 4) (v := .int (σ 406 0)) (C := R_Sr) (T := F_Sr) (N := 8) hx hb hts (fun w h => List.mem_cons_of_mem _ (i_Sr w h)) hown hK.1 hP 4 (wFb_o4 t a σ) rfl 6 (by decide) (hts (.fieldLink R_Sr 51 "FlatBoxes$Search" "bestPrice" "I") (List.mem_cons_of_mem _ (gIn k_165 (by decide +kernel)))) (fun _ h9 => h9) rfl d_Sr_share_7 ?_
  refine lv_icmp_lt (tgt := 14) hx hb d_Sr_share_10 (by decide) (fun c_8 => ?_) (fun c_8 => ?_)
  · 
    refine lv_iload_n hx hb d_Sr_share_14 rfl (lv_at hl 1 rfl) ?_
    refine lv_aload_n hx hb d_Sr_share_15 rfl (lv_at hl 0 rfl) ?_
    refine va_get (D := D) (ci := 4) (v := .int (σ 404 0)) (C := R_Sr) (T := F_Sr) (N := 8) hx hb hts (fun w h => List.mem_cons_of_mem _ (i_Sr w h)) hown hK.1 hP 4 (wFb_o4 t a σ) rfl 4 (by decide) (hts (.fieldLink R_Sr 30 "FlatBoxes$Search" "parts" "I") (List.mem_cons_of_mem _ (gIn k_163 (by decide +kernel)))) (fun _ h9 => h9) rfl d_Sr_share_16 ?_
    refine lv_topi (fun v_9 e_9 => ?_)
    obtain rfl : nI np = v_9 := (e_9.trans (h404a)).symm
    refine lv_icmp_lt (tgt := 28) hx hb d_Sr_share_19 (by decide) (fun c_10 => ?_) (fun c_10 => ?_)
    · 
      have h_10 : q < np := (nI_ltI (a := q) (b := np) (by omega) (by omega)).mp c_10
      refine lv_iconst (v := 0) hx hb d_Sr_share_28 (by decide) ?_
      refine lv_istore_n (lv' := [(3, .int 0), (0, .ref (a 499)), (1, .int (nI q)), (2, .int (nI bx))]) hx hb d_Sr_share_29 rfl hl (by decide) rfl (fun ls hl => ?_)
      exact cut_30 (bx + 2) 0 σ _ _ _ (by omega) (by omega) (rfl) (rfl) (h404a) (by assumption) hP hD hS (lv_sub hl [1, 2, 3, 0] rfl)
    · 
      exact absurd c_10 (fun h => h (nI_lt (by omega) (by omega)))
  · 
    exact W.vret hx hb hr (fun U hU hW => ⟨⟨σ, rfl, by unfold fShr; rw [if_neg (by assumption)], by rw [hU]; exact hP, hD⟩, hS.F hU⟩) hS.2.2 d_Sr_share_13
set_option maxHeartbeats 4000000 in
set_option maxRecDepth 100000 in
theorem c_Sr_share_6 (l : Launch) (D : va_G) (t : Nat → ClassId) (a : Nat → Nat) (σ : Nat → Nat → Int32) (q bx np : Nat) (hd : q + 6 = np) (hN8 : np ≤ 8) (hbq : bx ≤ q) (h404a : σ 404 0 = nI np) (hI : fSetsOK σ q) : gMv l D t y_Sr_share b_Sr_share 4 8 [.ref (a 499), .int (nI q), .int (nI bx)] (wFb t a σ) (wFb t a) (fun u => u = fShr 6 q bx σ) := by
  intro A
  refine Met.ofW (cc := b_Sr_share) (maxL := 4) (ret := none) (by decide) rfl ?_
  intro p e s m args below meth c s₁ B hml hv
  obtain ⟨rfl, hK, hP, hD⟩ := hv
  have hx := B.exec
  have hb := B.bytes
  have hr := B.returns
  have hts := atoms_spec (ws := .code y_Sr_share b_Sr_share 4 none :: gBig) B.pre
  have hown : s.vm.findClass R_Sr = some m.cls := findClass_of_methodNamed B.named
  have hlocks := B.notSynchronized
  have hS : va_S A s.heap s.heap [] := va_S.rf
  have hl := lv_entry ([.ref (a 499), .int (nI q), .int (nI bx)]) (n := 4) (Nat.le_of_ble_eq_true rfl)
  rw [lg_entry_eq]
  generalize (lg_sl ([.ref (a 499), .int (nI q), .int (nI bx)]) ++ List.replicate (4 - (lg_sl ([.ref (a 499), .int (nI q), .int (nI bx)])).length) Slot.unset).toArray = ls at hl ⊢
  have hl : lv_has ls 4 [(0, .ref (a 499)), (1, .int (nI q)), (2, .int (nI bx))] := hl
  show gGov l p e s m below meth c D t A 8 [.ref (a 499), .int (nI q), .int (nI bx)] (wFb t a) (fun u => u = fShr 6 q bx σ) s.heap [] (F0 m 0 ls [])
  have cut_30 : ∀ (n : Nat) (k : Nat) (τ : Nat → Nat → Int32) (H : Heap) (locs : List Loc) (ls : Array Slot), (k ≤ bx + 1) → (bx + 2 ≤ k + n) → (fShL (fun k => fShr 5 (q + 1) (fMx bx (k + 1))) q k σ = τ) → (τ 402 = σ 402) → (τ 404 0 = nI np) → (nI bx * σ 405 0 < σ 406 0) → va_P D gCl (wFb t a τ) H → va_D A (wFb t a τ) → va_S A s.heap H locs → lv_has ls 4 [(0, .ref (a 499)), (1, .int (nI q)), (2, .int (nI bx)), (3, .int (nI k))] → gGov l p e s m below meth c D t A 8 [.ref (a 499), .int (nI q), .int (nI bx)] (wFb t a) (fun u => u = fShr 6 q bx σ) H locs (F0 m 30 ls []) := by
    intro n
    induction n with
    | zero =>
      intro k τ H locs ls hk hf hs h402 h404 hgo hP hD hS hl
      exact absurd hf (by omega)
    | succ n ih =>
      intro k τ H locs ls hk hf hs h402 h404 hgo hP hD hS hl
      refine lv_iload_n hx hb d_Sr_share_30 rfl (lv_at hl 3 rfl) ?_
      refine lv_iload_n hx hb d_Sr_share_31 rfl (lv_at hl 2 rfl) ?_
      refine lv_icmp_gt (tgt := 79) hx hb d_Sr_share_32 (by decide) (fun c_1 => ?_) (fun c_1 => ?_)
      · 
        have h_1 : bx < k := (nI_ltI (a := bx) (b := k) (by omega) (by omega)).mp c_1
        exact W.vret hx hb hr (fun U hU hW => ⟨⟨τ, rfl, by unfold fShr; rw [if_pos hgo]; obtain rfl : k = bx + 1 := (by omega); exact hs.symm, by rw [hU]; exact hP, hD⟩, hS.F hU⟩) hS.2.2 d_Sr_share_79
      · 
        have h_1 : ¬ bx < k := fun q9 => c_1 ((nI_ltI (a := bx) (b := k) (by omega) (by omega)).mpr q9)
        refine lv_aload_n hx hb d_Sr_share_35 rfl (lv_at hl 0 rfl) ?_
        refine va_get (D := D) (ci := 4) (v := .ref (a 402)) (C := R_Sr) (T := F_Sr) (N := 8) hx hb hts (fun w h => List.mem_cons_of_mem _ (i_Sr w h)) hown hK.1 hP 4 (wFb_o4 t a τ) rfl 2 (by decide) (hts (.fieldLink R_Sr 18 "FlatBoxes$Search" "sets" "[I") (List.mem_cons_of_mem _ (gIn k_161 (by decide +kernel)))) (fun _ h9 => h9) rfl d_Sr_share_36 ?_
        refine lv_iload_n hx hb d_Sr_share_39 rfl (lv_at hl 3 rfl) ?_
        refine lv_dup2_11 hx hb d_Sr_share_40 rfl rfl ?_
        refine g_iald hx hb hK.1 hP 29 0 (wFb_402 t a τ) rfl k (rfl) (by omega) (by decide) d_Sr_share_41 ?_
        refine lv_iconst (v := 1) hx hb d_Sr_share_42 (by decide) ?_
        refine lv_iload_n hx hb d_Sr_share_43 rfl (lv_at hl 1 rfl) ?_
        refine lv_ishl hx hb d_Sr_share_44 ?_
        refine lv_topi (fun v_2 e_2 => ?_)
        obtain rfl : fBit q = v_2 := (e_2.trans (rfl)).symm
        refine lv_ior hx hb d_Sr_share_45 ?_
        refine g_iast hx hb hK.1 hP hD hS 29 0 (wFb_402 t a τ) rfl k (rfl) (by omega) (by decide) (w' := wFb t a (gSt τ 402 k ((τ 402 k) ||| (fBit q)))) (sFb_402 t a τ k ((τ 402 k) ||| (fBit q))) d_Sr_share_46 (fun H locs hP hD hS => ?_)
        refine lv_aload_n hx hb d_Sr_share_47 rfl (lv_at hl 0 rfl) ?_
        refine lv_iload_n hx hb d_Sr_share_48 rfl (lv_at hl 1 rfl) ?_
        refine lv_iconst (v := 1) hx hb d_Sr_share_49 (by decide) ?_
        refine lv_iadd hx hb d_Sr_share_50 ?_
        refine lv_topi (fun v_3 e_3 => ?_)
        obtain rfl : nI (q + 1) = v_3 := (e_3.trans (nI_1 _)).symm
        refine lv_iload_n hx hb d_Sr_share_51 rfl (lv_at hl 2 rfl) ?_
        refine lv_iload_n hx hb d_Sr_share_52 rfl (lv_at hl 3 rfl) ?_
        refine lv_iconst (v := 1) hx hb d_Sr_share_53 (by decide) ?_
        refine lv_iadd hx hb d_Sr_share_54 ?_
        refine lv_topi (fun v_4 e_4 => ?_)
        obtain rfl : nI (k + 1) = v_4 := (e_4.trans (nI_1 _)).symm
        refine va_mmax hx hb (hml.trans hl.1.symm) hown (hts (.methodLink R_Sr 77 Lib.Math.max.name) (List.mem_cons_of_mem _ (gIn k_333 (by decide +kernel)))) (hts (.static Lib.Math.max.name) (List.mem_cons_of_mem _ (gIn k_113 (by decide +kernel)))) (hts (.initialized "java/lang/Math") (List.mem_cons_of_mem _ (gIn k_5 (by decide +kernel)))) (hts (.code Lib.Math.max.name Lib.Math.max.code 2 (some .int)) (List.mem_cons_of_mem _ (gIn k_114 (by decide +kernel)))) (Nat.le_of_ble_eq_true rfl) (Nat.le_of_ble_eq_true rfl) (Nat.zero_le _) (Nat.zero_le _) d_Sr_share_55 ?_
        refine lv_topi (fun v_5 e_5 => ?_)
        obtain rfl : nI (fMx bx (k + 1)) = v_5 := (e_5.trans (gMax (by omega) (by omega))).symm
        refine g_vv (k := 2) (As := [.int (nI (q + 1)), .int (nI (fMx bx (k + 1)))]) (rest := []) (own := R_Sr) (C := R_Sr) (index := 57) ⟨hx, hb, hml, hown, hts⟩ (c_Sr_share_5 l D t a (gSt τ 402 k ((τ 402 k) ||| (fBit q))) (q + 1) (fMx bx (k + 1)) np (by omega) hN8 (fMx_le (by omega) (by omega)) h404 (fSetsOK_or (by omega) (fSetsOK_eq h402 hI))) (gg_Sr_57 _) (by decide +kernel) ⟨Nat.le_of_ble_eq_true rfl, Nat.le_of_ble_eq_true rfl⟩ rfl (va_recv hK.1 hP (ci := 4) (q0 := 4) rfl (wFb_o4 t a (gSt τ 402 k ((τ 402 k) ||| (fBit q))))) hK hP hD hS hl.1 rfl (Nat.le_of_ble_eq_true rfl) ⟨Nat.zero_le _, Nat.zero_le _⟩ d_Sr_share_58 (fun u_6 H locs q_6 hP hD hS => ?_)
        have hu_6 : u_6 = _ := q_6
        rw [hu_6] at hP hD
        refine lv_aload_n hx hb d_Sr_share_61 rfl (lv_at hl 0 rfl) ?_
        refine va_get (D := D) (ci := 4) (v := .ref (a 402)) (C := R_Sr) (T := F_Sr) (N := 8) hx hb hts (fun w h => List.mem_cons_of_mem _ (i_Sr w h)) hown hK.1 hP 4 (wFb_o4 t a (fShr 5 (q + 1) (fMx bx (k + 1)) (gSt τ 402 k ((τ 402 k) ||| (fBit q))))) rfl 2 (by decide) (hts (.fieldLink R_Sr 18 "FlatBoxes$Search" "sets" "[I") (List.mem_cons_of_mem _ (gIn k_161 (by decide +kernel)))) (fun _ h9 => h9) rfl d_Sr_share_62 ?_
        refine lv_iload_n hx hb d_Sr_share_65 rfl (lv_at hl 3 rfl) ?_
        refine lv_dup2_11 hx hb d_Sr_share_66 rfl rfl ?_
        refine g_iald hx hb hK.1 hP 29 0 (wFb_402 t a (fShr 5 (q + 1) (fMx bx (k + 1)) (gSt τ 402 k ((τ 402 k) ||| (fBit q))))) rfl k (rfl) (by omega) (by decide) d_Sr_share_67 ?_
        refine lv_iconst (v := 1) hx hb d_Sr_share_68 (by decide) ?_
        refine lv_iload_n hx hb d_Sr_share_69 rfl (lv_at hl 1 rfl) ?_
        refine lv_ishl hx hb d_Sr_share_70 ?_
        refine lv_topi (fun v_7 e_7 => ?_)
        obtain rfl : fBit q = v_7 := (e_7.trans (rfl)).symm
        refine lv_ixor hx hb d_Sr_share_71 ?_
        refine g_iast hx hb hK.1 hP hD hS 29 0 (wFb_402 t a (fShr 5 (q + 1) (fMx bx (k + 1)) (gSt τ 402 k ((τ 402 k) ||| (fBit q))))) rfl k (rfl) (by omega) (by decide) (w' := wFb t a (gSt (fShr 5 (q + 1) (fMx bx (k + 1)) (gSt τ 402 k ((τ 402 k) ||| (fBit q)))) 402 k (((fShr 5 (q + 1) (fMx bx (k + 1)) (gSt τ 402 k ((τ 402 k) ||| (fBit q)))) 402 k) ^^^ (fBit q)))) (sFb_402 t a (fShr 5 (q + 1) (fMx bx (k + 1)) (gSt τ 402 k ((τ 402 k) ||| (fBit q)))) k (((fShr 5 (q + 1) (fMx bx (k + 1)) (gSt τ 402 k ((τ 402 k) ||| (fBit q)))) 402 k) ^^^ (fBit q))) d_Sr_share_72 (fun H locs hP hD hS => ?_)
        refine lv_iinc (v := nI (k + 1)) (lv' := [(3, .int (nI (k + 1))), (0, .ref (a 499)), (1, .int (nI q)), (2, .int (nI bx))]) hx hb d_Sr_share_73 hl (k := 3) rfl (nI_1 k) (by decide) rfl (fun ls hl => ?_)
        refine lv_goto (tgt := 30) hx hb d_Sr_share_76 (by decide) ?_
        exact ih (k + 1) (gSt (fShr 5 (q + 1) (fMx bx (k + 1)) (gSt τ 402 k ((τ 402 k) ||| (fBit q)))) 402 k (((fShr 5 (q + 1) (fMx bx (k + 1)) (gSt τ 402 k ((τ 402 k) ||| (fBit q)))) 402 k) ^^^ (fBit q))) _ _ _ (by omega) (by omega) (by rw [← hs]; rfl) ((fBack_402 (by omega) (by omega) (fSetsOK_eq h402 hI) (fShr_402 5 (q + 1) (fMx bx (k + 1)) _ (by omega) (fMx_le (by omega) (by omega)) (fSetsOK_or (by omega) (fSetsOK_eq h402 hI)))).trans h402) ((congrFun ((gSt_ne _ _ _ _ (by decide)).trans (fShr_fix (by decide) (by decide) (by decide) (by decide) _ _ _ _)) 0).trans h404) (hgo) hP hD hS (lv_sub hl [1, 2, 3, 0] rfl)
  refine lv_iload_n hx hb d_Sr_share_0 rfl (lv_at hl 2 rfl) ?_
  refine lv_aload_n hx hb d_Sr_share_1 rfl (lv_at hl 0 rfl) ?_
  refine va_get (D := D) (ci := 4) (v := .int (σ 405 0)) (C := R_Sr) (T := F_Sr) (N := 8) hx hb hts (fun w h => List.mem_cons_of_mem _ (i_Sr w h)) hown hK.1 hP 4 (wFb_o4 t a σ) rfl 5 (by decide) (hts (.fieldLink R_Sr 34 "FlatBoxes$Search" "leastPrice" "I") (List.mem_cons_of_mem _ (gIn k_164 (by decide +kernel)))) (fun _ h9 => h9) rfl d_Sr_share_2 ?_
  refine lv_imul hx hb d_Sr_share_5 ?_
  refine lv_aload_n hx hb d_Sr_share_6 rfl (lv_at hl 0 rfl) ?_
  refine va_get (D := D) (ci := 4) (v := .int (σ 406 0)) (C := R_Sr) (T := F_Sr) (N := 8) hx hb hts (fun w h => List.mem_cons_of_mem _ (i_Sr w h)) hown hK.1 hP 4 (wFb_o4 t a σ) rfl 6 (by decide) (hts (.fieldLink R_Sr 51 "FlatBoxes$Search" "bestPrice" "I") (List.mem_cons_of_mem _ (gIn k_165 (by decide +kernel)))) (fun _ h9 => h9) rfl d_Sr_share_7 ?_
  refine lv_icmp_lt (tgt := 14) hx hb d_Sr_share_10 (by decide) (fun c_8 => ?_) (fun c_8 => ?_)
  · 
    refine lv_iload_n hx hb d_Sr_share_14 rfl (lv_at hl 1 rfl) ?_
    refine lv_aload_n hx hb d_Sr_share_15 rfl (lv_at hl 0 rfl) ?_
    refine va_get (D := D) (ci := 4) (v := .int (σ 404 0)) (C := R_Sr) (T := F_Sr) (N := 8) hx hb hts (fun w h => List.mem_cons_of_mem _ (i_Sr w h)) hown hK.1 hP 4 (wFb_o4 t a σ) rfl 4 (by decide) (hts (.fieldLink R_Sr 30 "FlatBoxes$Search" "parts" "I") (List.mem_cons_of_mem _ (gIn k_163 (by decide +kernel)))) (fun _ h9 => h9) rfl d_Sr_share_16 ?_
    refine lv_topi (fun v_9 e_9 => ?_)
    obtain rfl : nI np = v_9 := (e_9.trans (h404a)).symm
    refine lv_icmp_lt (tgt := 28) hx hb d_Sr_share_19 (by decide) (fun c_10 => ?_) (fun c_10 => ?_)
    · 
      have h_10 : q < np := (nI_ltI (a := q) (b := np) (by omega) (by omega)).mp c_10
      refine lv_iconst (v := 0) hx hb d_Sr_share_28 (by decide) ?_
      refine lv_istore_n (lv' := [(3, .int 0), (0, .ref (a 499)), (1, .int (nI q)), (2, .int (nI bx))]) hx hb d_Sr_share_29 rfl hl (by decide) rfl (fun ls hl => ?_)
      exact cut_30 (bx + 2) 0 σ _ _ _ (by omega) (by omega) (rfl) (rfl) (h404a) (by assumption) hP hD hS (lv_sub hl [1, 2, 3, 0] rfl)
    · 
      exact absurd c_10 (fun h => h (nI_lt (by omega) (by omega)))
  · 
    exact W.vret hx hb hr (fun U hU hW => ⟨⟨σ, rfl, by unfold fShr; rw [if_neg (by assumption)], by rw [hU]; exact hP, hD⟩, hS.F hU⟩) hS.2.2 d_Sr_share_13
set_option maxHeartbeats 4000000 in
set_option maxRecDepth 100000 in
theorem c_Sr_share_7 (l : Launch) (D : va_G) (t : Nat → ClassId) (a : Nat → Nat) (σ : Nat → Nat → Int32) (q bx np : Nat) (hd : q + 7 = np) (hN8 : np ≤ 8) (hbq : bx ≤ q) (h404a : σ 404 0 = nI np) (hI : fSetsOK σ q) : gMv l D t y_Sr_share b_Sr_share 4 9 [.ref (a 499), .int (nI q), .int (nI bx)] (wFb t a σ) (wFb t a) (fun u => u = fShr 7 q bx σ) := by
  intro A
  refine Met.ofW (cc := b_Sr_share) (maxL := 4) (ret := none) (by decide) rfl ?_
  intro p e s m args below meth c s₁ B hml hv
  obtain ⟨rfl, hK, hP, hD⟩ := hv
  have hx := B.exec
  have hb := B.bytes
  have hr := B.returns
  have hts := atoms_spec (ws := .code y_Sr_share b_Sr_share 4 none :: gBig) B.pre
  have hown : s.vm.findClass R_Sr = some m.cls := findClass_of_methodNamed B.named
  have hlocks := B.notSynchronized
  have hS : va_S A s.heap s.heap [] := va_S.rf
  have hl := lv_entry ([.ref (a 499), .int (nI q), .int (nI bx)]) (n := 4) (Nat.le_of_ble_eq_true rfl)
  rw [lg_entry_eq]
  generalize (lg_sl ([.ref (a 499), .int (nI q), .int (nI bx)]) ++ List.replicate (4 - (lg_sl ([.ref (a 499), .int (nI q), .int (nI bx)])).length) Slot.unset).toArray = ls at hl ⊢
  have hl : lv_has ls 4 [(0, .ref (a 499)), (1, .int (nI q)), (2, .int (nI bx))] := hl
  show gGov l p e s m below meth c D t A 9 [.ref (a 499), .int (nI q), .int (nI bx)] (wFb t a) (fun u => u = fShr 7 q bx σ) s.heap [] (F0 m 0 ls [])
  have cut_30 : ∀ (n : Nat) (k : Nat) (τ : Nat → Nat → Int32) (H : Heap) (locs : List Loc) (ls : Array Slot), (k ≤ bx + 1) → (bx + 2 ≤ k + n) → (fShL (fun k => fShr 6 (q + 1) (fMx bx (k + 1))) q k σ = τ) → (τ 402 = σ 402) → (τ 404 0 = nI np) → (nI bx * σ 405 0 < σ 406 0) → va_P D gCl (wFb t a τ) H → va_D A (wFb t a τ) → va_S A s.heap H locs → lv_has ls 4 [(0, .ref (a 499)), (1, .int (nI q)), (2, .int (nI bx)), (3, .int (nI k))] → gGov l p e s m below meth c D t A 9 [.ref (a 499), .int (nI q), .int (nI bx)] (wFb t a) (fun u => u = fShr 7 q bx σ) H locs (F0 m 30 ls []) := by
    intro n
    induction n with
    | zero =>
      intro k τ H locs ls hk hf hs h402 h404 hgo hP hD hS hl
      exact absurd hf (by omega)
    | succ n ih =>
      intro k τ H locs ls hk hf hs h402 h404 hgo hP hD hS hl
      refine lv_iload_n hx hb d_Sr_share_30 rfl (lv_at hl 3 rfl) ?_
      refine lv_iload_n hx hb d_Sr_share_31 rfl (lv_at hl 2 rfl) ?_
      refine lv_icmp_gt (tgt := 79) hx hb d_Sr_share_32 (by decide) (fun c_1 => ?_) (fun c_1 => ?_)
      · 
        have h_1 : bx < k := (nI_ltI (a := bx) (b := k) (by omega) (by omega)).mp c_1
        exact W.vret hx hb hr (fun U hU hW => ⟨⟨τ, rfl, by unfold fShr; rw [if_pos hgo]; obtain rfl : k = bx + 1 := (by omega); exact hs.symm, by rw [hU]; exact hP, hD⟩, hS.F hU⟩) hS.2.2 d_Sr_share_79
      · 
        have h_1 : ¬ bx < k := fun q9 => c_1 ((nI_ltI (a := bx) (b := k) (by omega) (by omega)).mpr q9)
        refine lv_aload_n hx hb d_Sr_share_35 rfl (lv_at hl 0 rfl) ?_
        refine va_get (D := D) (ci := 4) (v := .ref (a 402)) (C := R_Sr) (T := F_Sr) (N := 8) hx hb hts (fun w h => List.mem_cons_of_mem _ (i_Sr w h)) hown hK.1 hP 4 (wFb_o4 t a τ) rfl 2 (by decide) (hts (.fieldLink R_Sr 18 "FlatBoxes$Search" "sets" "[I") (List.mem_cons_of_mem _ (gIn k_161 (by decide +kernel)))) (fun _ h9 => h9) rfl d_Sr_share_36 ?_
        refine lv_iload_n hx hb d_Sr_share_39 rfl (lv_at hl 3 rfl) ?_
        refine lv_dup2_11 hx hb d_Sr_share_40 rfl rfl ?_
        refine g_iald hx hb hK.1 hP 29 0 (wFb_402 t a τ) rfl k (rfl) (by omega) (by decide) d_Sr_share_41 ?_
        refine lv_iconst (v := 1) hx hb d_Sr_share_42 (by decide) ?_
        refine lv_iload_n hx hb d_Sr_share_43 rfl (lv_at hl 1 rfl) ?_
        refine lv_ishl hx hb d_Sr_share_44 ?_
        refine lv_topi (fun v_2 e_2 => ?_)
        obtain rfl : fBit q = v_2 := (e_2.trans (rfl)).symm
        refine lv_ior hx hb d_Sr_share_45 ?_
        refine g_iast hx hb hK.1 hP hD hS 29 0 (wFb_402 t a τ) rfl k (rfl) (by omega) (by decide) (w' := wFb t a (gSt τ 402 k ((τ 402 k) ||| (fBit q)))) (sFb_402 t a τ k ((τ 402 k) ||| (fBit q))) d_Sr_share_46 (fun H locs hP hD hS => ?_)
        refine lv_aload_n hx hb d_Sr_share_47 rfl (lv_at hl 0 rfl) ?_
        refine lv_iload_n hx hb d_Sr_share_48 rfl (lv_at hl 1 rfl) ?_
        refine lv_iconst (v := 1) hx hb d_Sr_share_49 (by decide) ?_
        refine lv_iadd hx hb d_Sr_share_50 ?_
        refine lv_topi (fun v_3 e_3 => ?_)
        obtain rfl : nI (q + 1) = v_3 := (e_3.trans (nI_1 _)).symm
        refine lv_iload_n hx hb d_Sr_share_51 rfl (lv_at hl 2 rfl) ?_
        refine lv_iload_n hx hb d_Sr_share_52 rfl (lv_at hl 3 rfl) ?_
        refine lv_iconst (v := 1) hx hb d_Sr_share_53 (by decide) ?_
        refine lv_iadd hx hb d_Sr_share_54 ?_
        refine lv_topi (fun v_4 e_4 => ?_)
        obtain rfl : nI (k + 1) = v_4 := (e_4.trans (nI_1 _)).symm
        refine va_mmax hx hb (hml.trans hl.1.symm) hown (hts (.methodLink R_Sr 77 Lib.Math.max.name) (List.mem_cons_of_mem _ (gIn k_333 (by decide +kernel)))) (hts (.static Lib.Math.max.name) (List.mem_cons_of_mem _ (gIn k_113 (by decide +kernel)))) (hts (.initialized "java/lang/Math") (List.mem_cons_of_mem _ (gIn k_5 (by decide +kernel)))) (hts (.code Lib.Math.max.name Lib.Math.max.code 2 (some .int)) (List.mem_cons_of_mem _ (gIn k_114 (by decide +kernel)))) (Nat.le_of_ble_eq_true rfl) (Nat.le_of_ble_eq_true rfl) (Nat.zero_le _) (Nat.zero_le _) d_Sr_share_55 ?_
        refine lv_topi (fun v_5 e_5 => ?_)
        obtain rfl : nI (fMx bx (k + 1)) = v_5 := (e_5.trans (gMax (by omega) (by omega))).symm
        refine g_vv (k := 2) (As := [.int (nI (q + 1)), .int (nI (fMx bx (k + 1)))]) (rest := []) (own := R_Sr) (C := R_Sr) (index := 57) ⟨hx, hb, hml, hown, hts⟩ (c_Sr_share_6 l D t a (gSt τ 402 k ((τ 402 k) ||| (fBit q))) (q + 1) (fMx bx (k + 1)) np (by omega) hN8 (fMx_le (by omega) (by omega)) h404 (fSetsOK_or (by omega) (fSetsOK_eq h402 hI))) (gg_Sr_57 _) (by decide +kernel) ⟨Nat.le_of_ble_eq_true rfl, Nat.le_of_ble_eq_true rfl⟩ rfl (va_recv hK.1 hP (ci := 4) (q0 := 4) rfl (wFb_o4 t a (gSt τ 402 k ((τ 402 k) ||| (fBit q))))) hK hP hD hS hl.1 rfl (Nat.le_of_ble_eq_true rfl) ⟨Nat.zero_le _, Nat.zero_le _⟩ d_Sr_share_58 (fun u_6 H locs q_6 hP hD hS => ?_)
        have hu_6 : u_6 = _ := q_6
        rw [hu_6] at hP hD
        refine lv_aload_n hx hb d_Sr_share_61 rfl (lv_at hl 0 rfl) ?_
        refine va_get (D := D) (ci := 4) (v := .ref (a 402)) (C := R_Sr) (T := F_Sr) (N := 8) hx hb hts (fun w h => List.mem_cons_of_mem _ (i_Sr w h)) hown hK.1 hP 4 (wFb_o4 t a (fShr 6 (q + 1) (fMx bx (k + 1)) (gSt τ 402 k ((τ 402 k) ||| (fBit q))))) rfl 2 (by decide) (hts (.fieldLink R_Sr 18 "FlatBoxes$Search" "sets" "[I") (List.mem_cons_of_mem _ (gIn k_161 (by decide +kernel)))) (fun _ h9 => h9) rfl d_Sr_share_62 ?_
        refine lv_iload_n hx hb d_Sr_share_65 rfl (lv_at hl 3 rfl) ?_
        refine lv_dup2_11 hx hb d_Sr_share_66 rfl rfl ?_
        refine g_iald hx hb hK.1 hP 29 0 (wFb_402 t a (fShr 6 (q + 1) (fMx bx (k + 1)) (gSt τ 402 k ((τ 402 k) ||| (fBit q))))) rfl k (rfl) (by omega) (by decide) d_Sr_share_67 ?_
        refine lv_iconst (v := 1) hx hb d_Sr_share_68 (by decide) ?_
        refine lv_iload_n hx hb d_Sr_share_69 rfl (lv_at hl 1 rfl) ?_
        refine lv_ishl hx hb d_Sr_share_70 ?_
        refine lv_topi (fun v_7 e_7 => ?_)
        obtain rfl : fBit q = v_7 := (e_7.trans (rfl)).symm
        refine lv_ixor hx hb d_Sr_share_71 ?_
        refine g_iast hx hb hK.1 hP hD hS 29 0 (wFb_402 t a (fShr 6 (q + 1) (fMx bx (k + 1)) (gSt τ 402 k ((τ 402 k) ||| (fBit q))))) rfl k (rfl) (by omega) (by decide) (w' := wFb t a (gSt (fShr 6 (q + 1) (fMx bx (k + 1)) (gSt τ 402 k ((τ 402 k) ||| (fBit q)))) 402 k (((fShr 6 (q + 1) (fMx bx (k + 1)) (gSt τ 402 k ((τ 402 k) ||| (fBit q)))) 402 k) ^^^ (fBit q)))) (sFb_402 t a (fShr 6 (q + 1) (fMx bx (k + 1)) (gSt τ 402 k ((τ 402 k) ||| (fBit q)))) k (((fShr 6 (q + 1) (fMx bx (k + 1)) (gSt τ 402 k ((τ 402 k) ||| (fBit q)))) 402 k) ^^^ (fBit q))) d_Sr_share_72 (fun H locs hP hD hS => ?_)
        refine lv_iinc (v := nI (k + 1)) (lv' := [(3, .int (nI (k + 1))), (0, .ref (a 499)), (1, .int (nI q)), (2, .int (nI bx))]) hx hb d_Sr_share_73 hl (k := 3) rfl (nI_1 k) (by decide) rfl (fun ls hl => ?_)
        refine lv_goto (tgt := 30) hx hb d_Sr_share_76 (by decide) ?_
        exact ih (k + 1) (gSt (fShr 6 (q + 1) (fMx bx (k + 1)) (gSt τ 402 k ((τ 402 k) ||| (fBit q)))) 402 k (((fShr 6 (q + 1) (fMx bx (k + 1)) (gSt τ 402 k ((τ 402 k) ||| (fBit q)))) 402 k) ^^^ (fBit q))) _ _ _ (by omega) (by omega) (by rw [← hs]; rfl) ((fBack_402 (by omega) (by omega) (fSetsOK_eq h402 hI) (fShr_402 6 (q + 1) (fMx bx (k + 1)) _ (by omega) (fMx_le (by omega) (by omega)) (fSetsOK_or (by omega) (fSetsOK_eq h402 hI)))).trans h402) ((congrFun ((gSt_ne _ _ _ _ (by decide)).trans (fShr_fix (by decide) (by decide) (by decide) (by decide) _ _ _ _)) 0).trans h404) (hgo) hP hD hS (lv_sub hl [1, 2, 3, 0] rfl)
  refine lv_iload_n hx hb d_Sr_share_0 rfl (lv_at hl 2 rfl) ?_
  refine lv_aload_n hx hb d_Sr_share_1 rfl (lv_at hl 0 rfl) ?_
  refine va_get (D := D) (ci := 4) (v := .int (σ 405 0)) (C := R_Sr) (T := F_Sr) (N := 8) hx hb hts (fun w h => List.mem_cons_of_mem _ (i_Sr w h)) hown hK.1 hP 4 (wFb_o4 t a σ) rfl 5 (by decide) (hts (.fieldLink R_Sr 34 "FlatBoxes$Search" "leastPrice" "I") (List.mem_cons_of_mem _ (gIn k_164 (by decide +kernel)))) (fun _ h9 => h9) rfl d_Sr_share_2 ?_
  refine lv_imul hx hb d_Sr_share_5 ?_
  refine lv_aload_n hx hb d_Sr_share_6 rfl (lv_at hl 0 rfl) ?_
  refine va_get (D := D) (ci := 4) (v := .int (σ 406 0)) (C := R_Sr) (T := F_Sr) (N := 8) hx hb hts (fun w h => List.mem_cons_of_mem _ (i_Sr w h)) hown hK.1 hP 4 (wFb_o4 t a σ) rfl 6 (by decide) (hts (.fieldLink R_Sr 51 "FlatBoxes$Search" "bestPrice" "I") (List.mem_cons_of_mem _ (gIn k_165 (by decide +kernel)))) (fun _ h9 => h9) rfl d_Sr_share_7 ?_
  refine lv_icmp_lt (tgt := 14) hx hb d_Sr_share_10 (by decide) (fun c_8 => ?_) (fun c_8 => ?_)
  · 
    refine lv_iload_n hx hb d_Sr_share_14 rfl (lv_at hl 1 rfl) ?_
    refine lv_aload_n hx hb d_Sr_share_15 rfl (lv_at hl 0 rfl) ?_
    refine va_get (D := D) (ci := 4) (v := .int (σ 404 0)) (C := R_Sr) (T := F_Sr) (N := 8) hx hb hts (fun w h => List.mem_cons_of_mem _ (i_Sr w h)) hown hK.1 hP 4 (wFb_o4 t a σ) rfl 4 (by decide) (hts (.fieldLink R_Sr 30 "FlatBoxes$Search" "parts" "I") (List.mem_cons_of_mem _ (gIn k_163 (by decide +kernel)))) (fun _ h9 => h9) rfl d_Sr_share_16 ?_
    refine lv_topi (fun v_9 e_9 => ?_)
    obtain rfl : nI np = v_9 := (e_9.trans (h404a)).symm
    refine lv_icmp_lt (tgt := 28) hx hb d_Sr_share_19 (by decide) (fun c_10 => ?_) (fun c_10 => ?_)
    · 
      have h_10 : q < np := (nI_ltI (a := q) (b := np) (by omega) (by omega)).mp c_10
      refine lv_iconst (v := 0) hx hb d_Sr_share_28 (by decide) ?_
      refine lv_istore_n (lv' := [(3, .int 0), (0, .ref (a 499)), (1, .int (nI q)), (2, .int (nI bx))]) hx hb d_Sr_share_29 rfl hl (by decide) rfl (fun ls hl => ?_)
      exact cut_30 (bx + 2) 0 σ _ _ _ (by omega) (by omega) (rfl) (rfl) (h404a) (by assumption) hP hD hS (lv_sub hl [1, 2, 3, 0] rfl)
    · 
      exact absurd c_10 (fun h => h (nI_lt (by omega) (by omega)))
  · 
    exact W.vret hx hb hr (fun U hU hW => ⟨⟨σ, rfl, by unfold fShr; rw [if_neg (by assumption)], by rw [hU]; exact hP, hD⟩, hS.F hU⟩) hS.2.2 d_Sr_share_13
set_option maxHeartbeats 4000000 in
set_option maxRecDepth 100000 in
theorem c_Sr_share_8 (l : Launch) (D : va_G) (t : Nat → ClassId) (a : Nat → Nat) (σ : Nat → Nat → Int32) (q bx np : Nat) (hd : q + 8 = np) (hN8 : np ≤ 8) (hbq : bx ≤ q) (h404a : σ 404 0 = nI np) (hI : fSetsOK σ q) : gMv l D t y_Sr_share b_Sr_share 4 10 [.ref (a 499), .int (nI q), .int (nI bx)] (wFb t a σ) (wFb t a) (fun u => u = fShr 8 q bx σ) := by
  intro A
  refine Met.ofW (cc := b_Sr_share) (maxL := 4) (ret := none) (by decide) rfl ?_
  intro p e s m args below meth c s₁ B hml hv
  obtain ⟨rfl, hK, hP, hD⟩ := hv
  have hx := B.exec
  have hb := B.bytes
  have hr := B.returns
  have hts := atoms_spec (ws := .code y_Sr_share b_Sr_share 4 none :: gBig) B.pre
  have hown : s.vm.findClass R_Sr = some m.cls := findClass_of_methodNamed B.named
  have hlocks := B.notSynchronized
  have hS : va_S A s.heap s.heap [] := va_S.rf
  have hl := lv_entry ([.ref (a 499), .int (nI q), .int (nI bx)]) (n := 4) (Nat.le_of_ble_eq_true rfl)
  rw [lg_entry_eq]
  generalize (lg_sl ([.ref (a 499), .int (nI q), .int (nI bx)]) ++ List.replicate (4 - (lg_sl ([.ref (a 499), .int (nI q), .int (nI bx)])).length) Slot.unset).toArray = ls at hl ⊢
  have hl : lv_has ls 4 [(0, .ref (a 499)), (1, .int (nI q)), (2, .int (nI bx))] := hl
  show gGov l p e s m below meth c D t A 10 [.ref (a 499), .int (nI q), .int (nI bx)] (wFb t a) (fun u => u = fShr 8 q bx σ) s.heap [] (F0 m 0 ls [])
  have cut_30 : ∀ (n : Nat) (k : Nat) (τ : Nat → Nat → Int32) (H : Heap) (locs : List Loc) (ls : Array Slot), (k ≤ bx + 1) → (bx + 2 ≤ k + n) → (fShL (fun k => fShr 7 (q + 1) (fMx bx (k + 1))) q k σ = τ) → (τ 402 = σ 402) → (τ 404 0 = nI np) → (nI bx * σ 405 0 < σ 406 0) → va_P D gCl (wFb t a τ) H → va_D A (wFb t a τ) → va_S A s.heap H locs → lv_has ls 4 [(0, .ref (a 499)), (1, .int (nI q)), (2, .int (nI bx)), (3, .int (nI k))] → gGov l p e s m below meth c D t A 10 [.ref (a 499), .int (nI q), .int (nI bx)] (wFb t a) (fun u => u = fShr 8 q bx σ) H locs (F0 m 30 ls []) := by
    intro n
    induction n with
    | zero =>
      intro k τ H locs ls hk hf hs h402 h404 hgo hP hD hS hl
      exact absurd hf (by omega)
    | succ n ih =>
      intro k τ H locs ls hk hf hs h402 h404 hgo hP hD hS hl
      refine lv_iload_n hx hb d_Sr_share_30 rfl (lv_at hl 3 rfl) ?_
      refine lv_iload_n hx hb d_Sr_share_31 rfl (lv_at hl 2 rfl) ?_
      refine lv_icmp_gt (tgt := 79) hx hb d_Sr_share_32 (by decide) (fun c_1 => ?_) (fun c_1 => ?_)
      · 
        have h_1 : bx < k := (nI_ltI (a := bx) (b := k) (by omega) (by omega)).mp c_1
        exact W.vret hx hb hr (fun U hU hW => ⟨⟨τ, rfl, by unfold fShr; rw [if_pos hgo]; obtain rfl : k = bx + 1 := (by omega); exact hs.symm, by rw [hU]; exact hP, hD⟩, hS.F hU⟩) hS.2.2 d_Sr_share_79
      · 
        have h_1 : ¬ bx < k := fun q9 => c_1 ((nI_ltI (a := bx) (b := k) (by omega) (by omega)).mpr q9)
        refine lv_aload_n hx hb d_Sr_share_35 rfl (lv_at hl 0 rfl) ?_
        refine va_get (D := D) (ci := 4) (v := .ref (a 402)) (C := R_Sr) (T := F_Sr) (N := 8) hx hb hts (fun w h => List.mem_cons_of_mem _ (i_Sr w h)) hown hK.1 hP 4 (wFb_o4 t a τ) rfl 2 (by decide) (hts (.fieldLink R_Sr 18 "FlatBoxes$Search" "sets" "[I") (List.mem_cons_of_mem _ (gIn k_161 (by decide +kernel)))) (fun _ h9 => h9) rfl d_Sr_share_36 ?_
        refine lv_iload_n hx hb d_Sr_share_39 rfl (lv_at hl 3 rfl) ?_
        refine lv_dup2_11 hx hb d_Sr_share_40 rfl rfl ?_
        refine g_iald hx hb hK.1 hP 29 0 (wFb_402 t a τ) rfl k (rfl) (by omega) (by decide) d_Sr_share_41 ?_
        refine lv_iconst (v := 1) hx hb d_Sr_share_42 (by decide) ?_
        refine lv_iload_n hx hb d_Sr_share_43 rfl (lv_at hl 1 rfl) ?_
        refine lv_ishl hx hb d_Sr_share_44 ?_
        refine lv_topi (fun v_2 e_2 => ?_)
        obtain rfl : fBit q = v_2 := (e_2.trans (rfl)).symm
        refine lv_ior hx hb d_Sr_share_45 ?_
        refine g_iast hx hb hK.1 hP hD hS 29 0 (wFb_402 t a τ) rfl k (rfl) (by omega) (by decide) (w' := wFb t a (gSt τ 402 k ((τ 402 k) ||| (fBit q)))) (sFb_402 t a τ k ((τ 402 k) ||| (fBit q))) d_Sr_share_46 (fun H locs hP hD hS => ?_)
        refine lv_aload_n hx hb d_Sr_share_47 rfl (lv_at hl 0 rfl) ?_
        refine lv_iload_n hx hb d_Sr_share_48 rfl (lv_at hl 1 rfl) ?_
        refine lv_iconst (v := 1) hx hb d_Sr_share_49 (by decide) ?_
        refine lv_iadd hx hb d_Sr_share_50 ?_
        refine lv_topi (fun v_3 e_3 => ?_)
        obtain rfl : nI (q + 1) = v_3 := (e_3.trans (nI_1 _)).symm
        refine lv_iload_n hx hb d_Sr_share_51 rfl (lv_at hl 2 rfl) ?_
        refine lv_iload_n hx hb d_Sr_share_52 rfl (lv_at hl 3 rfl) ?_
        refine lv_iconst (v := 1) hx hb d_Sr_share_53 (by decide) ?_
        refine lv_iadd hx hb d_Sr_share_54 ?_
        refine lv_topi (fun v_4 e_4 => ?_)
        obtain rfl : nI (k + 1) = v_4 := (e_4.trans (nI_1 _)).symm
        refine va_mmax hx hb (hml.trans hl.1.symm) hown (hts (.methodLink R_Sr 77 Lib.Math.max.name) (List.mem_cons_of_mem _ (gIn k_333 (by decide +kernel)))) (hts (.static Lib.Math.max.name) (List.mem_cons_of_mem _ (gIn k_113 (by decide +kernel)))) (hts (.initialized "java/lang/Math") (List.mem_cons_of_mem _ (gIn k_5 (by decide +kernel)))) (hts (.code Lib.Math.max.name Lib.Math.max.code 2 (some .int)) (List.mem_cons_of_mem _ (gIn k_114 (by decide +kernel)))) (Nat.le_of_ble_eq_true rfl) (Nat.le_of_ble_eq_true rfl) (Nat.zero_le _) (Nat.zero_le _) d_Sr_share_55 ?_
        refine lv_topi (fun v_5 e_5 => ?_)
        obtain rfl : nI (fMx bx (k + 1)) = v_5 := (e_5.trans (gMax (by omega) (by omega))).symm
        refine g_vv (k := 2) (As := [.int (nI (q + 1)), .int (nI (fMx bx (k + 1)))]) (rest := []) (own := R_Sr) (C := R_Sr) (index := 57) ⟨hx, hb, hml, hown, hts⟩ (c_Sr_share_7 l D t a (gSt τ 402 k ((τ 402 k) ||| (fBit q))) (q + 1) (fMx bx (k + 1)) np (by omega) hN8 (fMx_le (by omega) (by omega)) h404 (fSetsOK_or (by omega) (fSetsOK_eq h402 hI))) (gg_Sr_57 _) (by decide +kernel) ⟨Nat.le_of_ble_eq_true rfl, Nat.le_of_ble_eq_true rfl⟩ rfl (va_recv hK.1 hP (ci := 4) (q0 := 4) rfl (wFb_o4 t a (gSt τ 402 k ((τ 402 k) ||| (fBit q))))) hK hP hD hS hl.1 rfl (Nat.le_of_ble_eq_true rfl) ⟨Nat.zero_le _, Nat.zero_le _⟩ d_Sr_share_58 (fun u_6 H locs q_6 hP hD hS => ?_)
        have hu_6 : u_6 = _ := q_6
        rw [hu_6] at hP hD
        refine lv_aload_n hx hb d_Sr_share_61 rfl (lv_at hl 0 rfl) ?_
        refine va_get (D := D) (ci := 4) (v := .ref (a 402)) (C := R_Sr) (T := F_Sr) (N := 8) hx hb hts (fun w h => List.mem_cons_of_mem _ (i_Sr w h)) hown hK.1 hP 4 (wFb_o4 t a (fShr 7 (q + 1) (fMx bx (k + 1)) (gSt τ 402 k ((τ 402 k) ||| (fBit q))))) rfl 2 (by decide) (hts (.fieldLink R_Sr 18 "FlatBoxes$Search" "sets" "[I") (List.mem_cons_of_mem _ (gIn k_161 (by decide +kernel)))) (fun _ h9 => h9) rfl d_Sr_share_62 ?_
        refine lv_iload_n hx hb d_Sr_share_65 rfl (lv_at hl 3 rfl) ?_
        refine lv_dup2_11 hx hb d_Sr_share_66 rfl rfl ?_
        refine g_iald hx hb hK.1 hP 29 0 (wFb_402 t a (fShr 7 (q + 1) (fMx bx (k + 1)) (gSt τ 402 k ((τ 402 k) ||| (fBit q))))) rfl k (rfl) (by omega) (by decide) d_Sr_share_67 ?_
        refine lv_iconst (v := 1) hx hb d_Sr_share_68 (by decide) ?_
        refine lv_iload_n hx hb d_Sr_share_69 rfl (lv_at hl 1 rfl) ?_
        refine lv_ishl hx hb d_Sr_share_70 ?_
        refine lv_topi (fun v_7 e_7 => ?_)
        obtain rfl : fBit q = v_7 := (e_7.trans (rfl)).symm
        refine lv_ixor hx hb d_Sr_share_71 ?_
        refine g_iast hx hb hK.1 hP hD hS 29 0 (wFb_402 t a (fShr 7 (q + 1) (fMx bx (k + 1)) (gSt τ 402 k ((τ 402 k) ||| (fBit q))))) rfl k (rfl) (by omega) (by decide) (w' := wFb t a (gSt (fShr 7 (q + 1) (fMx bx (k + 1)) (gSt τ 402 k ((τ 402 k) ||| (fBit q)))) 402 k (((fShr 7 (q + 1) (fMx bx (k + 1)) (gSt τ 402 k ((τ 402 k) ||| (fBit q)))) 402 k) ^^^ (fBit q)))) (sFb_402 t a (fShr 7 (q + 1) (fMx bx (k + 1)) (gSt τ 402 k ((τ 402 k) ||| (fBit q)))) k (((fShr 7 (q + 1) (fMx bx (k + 1)) (gSt τ 402 k ((τ 402 k) ||| (fBit q)))) 402 k) ^^^ (fBit q))) d_Sr_share_72 (fun H locs hP hD hS => ?_)
        refine lv_iinc (v := nI (k + 1)) (lv' := [(3, .int (nI (k + 1))), (0, .ref (a 499)), (1, .int (nI q)), (2, .int (nI bx))]) hx hb d_Sr_share_73 hl (k := 3) rfl (nI_1 k) (by decide) rfl (fun ls hl => ?_)
        refine lv_goto (tgt := 30) hx hb d_Sr_share_76 (by decide) ?_
        exact ih (k + 1) (gSt (fShr 7 (q + 1) (fMx bx (k + 1)) (gSt τ 402 k ((τ 402 k) ||| (fBit q)))) 402 k (((fShr 7 (q + 1) (fMx bx (k + 1)) (gSt τ 402 k ((τ 402 k) ||| (fBit q)))) 402 k) ^^^ (fBit q))) _ _ _ (by omega) (by omega) (by rw [← hs]; rfl) ((fBack_402 (by omega) (by omega) (fSetsOK_eq h402 hI) (fShr_402 7 (q + 1) (fMx bx (k + 1)) _ (by omega) (fMx_le (by omega) (by omega)) (fSetsOK_or (by omega) (fSetsOK_eq h402 hI)))).trans h402) ((congrFun ((gSt_ne _ _ _ _ (by decide)).trans (fShr_fix (by decide) (by decide) (by decide) (by decide) _ _ _ _)) 0).trans h404) (hgo) hP hD hS (lv_sub hl [1, 2, 3, 0] rfl)
  refine lv_iload_n hx hb d_Sr_share_0 rfl (lv_at hl 2 rfl) ?_
  refine lv_aload_n hx hb d_Sr_share_1 rfl (lv_at hl 0 rfl) ?_
  refine va_get (D := D) (ci := 4) (v := .int (σ 405 0)) (C := R_Sr) (T := F_Sr) (N := 8) hx hb hts (fun w h => List.mem_cons_of_mem _ (i_Sr w h)) hown hK.1 hP 4 (wFb_o4 t a σ) rfl 5 (by decide) (hts (.fieldLink R_Sr 34 "FlatBoxes$Search" "leastPrice" "I") (List.mem_cons_of_mem _ (gIn k_164 (by decide +kernel)))) (fun _ h9 => h9) rfl d_Sr_share_2 ?_
  refine lv_imul hx hb d_Sr_share_5 ?_
  refine lv_aload_n hx hb d_Sr_share_6 rfl (lv_at hl 0 rfl) ?_
  refine va_get (D := D) (ci := 4) (v := .int (σ 406 0)) (C := R_Sr) (T := F_Sr) (N := 8) hx hb hts (fun w h => List.mem_cons_of_mem _ (i_Sr w h)) hown hK.1 hP 4 (wFb_o4 t a σ) rfl 6 (by decide) (hts (.fieldLink R_Sr 51 "FlatBoxes$Search" "bestPrice" "I") (List.mem_cons_of_mem _ (gIn k_165 (by decide +kernel)))) (fun _ h9 => h9) rfl d_Sr_share_7 ?_
  refine lv_icmp_lt (tgt := 14) hx hb d_Sr_share_10 (by decide) (fun c_8 => ?_) (fun c_8 => ?_)
  · 
    refine lv_iload_n hx hb d_Sr_share_14 rfl (lv_at hl 1 rfl) ?_
    refine lv_aload_n hx hb d_Sr_share_15 rfl (lv_at hl 0 rfl) ?_
    refine va_get (D := D) (ci := 4) (v := .int (σ 404 0)) (C := R_Sr) (T := F_Sr) (N := 8) hx hb hts (fun w h => List.mem_cons_of_mem _ (i_Sr w h)) hown hK.1 hP 4 (wFb_o4 t a σ) rfl 4 (by decide) (hts (.fieldLink R_Sr 30 "FlatBoxes$Search" "parts" "I") (List.mem_cons_of_mem _ (gIn k_163 (by decide +kernel)))) (fun _ h9 => h9) rfl d_Sr_share_16 ?_
    refine lv_topi (fun v_9 e_9 => ?_)
    obtain rfl : nI np = v_9 := (e_9.trans (h404a)).symm
    refine lv_icmp_lt (tgt := 28) hx hb d_Sr_share_19 (by decide) (fun c_10 => ?_) (fun c_10 => ?_)
    · 
      have h_10 : q < np := (nI_ltI (a := q) (b := np) (by omega) (by omega)).mp c_10
      refine lv_iconst (v := 0) hx hb d_Sr_share_28 (by decide) ?_
      refine lv_istore_n (lv' := [(3, .int 0), (0, .ref (a 499)), (1, .int (nI q)), (2, .int (nI bx))]) hx hb d_Sr_share_29 rfl hl (by decide) rfl (fun ls hl => ?_)
      exact cut_30 (bx + 2) 0 σ _ _ _ (by omega) (by omega) (rfl) (rfl) (h404a) (by assumption) hP hD hS (lv_sub hl [1, 2, 3, 0] rfl)
    · 
      exact absurd c_10 (fun h => h (nI_lt (by omega) (by omega)))
  · 
    exact W.vret hx hb hr (fun U hU hW => ⟨⟨σ, rfl, by unfold fShr; rw [if_neg (by assumption)], by rw [hU]; exact hP, hD⟩, hS.F hU⟩) hS.2.2 d_Sr_share_13
