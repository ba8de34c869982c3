def mBef (f : Nat → Int32) (q : Nat) : Nat → Int32
  | 0 => 0
  | r + 1 => mBef f q r + (if f q < f r then 1 else if ¬ f r = f q then 0 else if q ≤ r then 0 else 1)
def mBT (f : Nat → Int32) (np : Nat) (k : Int32) : Nat → Nat → Int32
  | 0, _ => -1
  | d + 1, q => if mBef f q np = k then nI q else mBT f np k d (q + 1)
def mRoom (f : Nat → Int32) (gap w wide : Int32) : Nat → Nat → Nat
  | 0, j => j
  | d + 1, j => if f j + gap + w ≤ wide then j else mRoom f gap w wide d (j + 1)
theorem mRoom_le (f : Nat → Int32) (gap w wide : Int32) : ∀ d j : Nat, mRoom f gap w wide d j ≤ j + d
  | 0, j => Nat.le_refl _
  | d + 1, j => by
    unfold mRoom
    split
    · omega
    · exact Nat.le_trans (mRoom_le f gap w wide d (j + 1)) (by omega)


set_option maxHeartbeats 4000000 in
set_option maxRecDepth 100000 in
theorem c_Md_byThickness (l : Launch) (D : va_G) (t : Nat → ClassId) (a : Nat → Nat) (σ : Nat → Nat → Int32) (k : Int32) (np : Nat) (hN : σ 8 0 = nI np) (hN8 : np ≤ 8) : gMi l D t y_Md_byThickness b_Md_byThickness 5 (some .int) 0 [.ref (a 0), .int k] (wMd t a σ) (wMd t a) (fun r u => r = mBT (σ 11) np k np 0 ∧ u = σ) := by
  intro A
  refine Met.ofW (cc := b_Md_byThickness) (maxL := 5) (ret := (some .int)) (by decide) rfl ?_
  intro p e s m args below meth c s₁ B hml hv
  obtain ⟨rfl, hK, hP, hD⟩ := hv
  have hx := B.exec
  have hb := B.bytes
  have hr := B.returns
  have hts := atoms_spec (ws := .code y_Md_byThickness b_Md_byThickness 5 (some .int) :: gBig) B.pre
  have hown : s.vm.findClass R_Md = some m.cls := findClass_of_methodNamed B.named
  have hlocks := B.notSynchronized
  have hS : va_S A s.heap s.heap [] := va_S.rf
  have hl := lv_entry ([.ref (a 0), .int k]) (n := 5) (Nat.le_of_ble_eq_true rfl)
  rw [lg_entry_eq]
  generalize (lg_sl ([.ref (a 0), .int k]) ++ List.replicate (5 - (lg_sl ([.ref (a 0), .int k])).length) Slot.unset).toArray = ls at hl ⊢
  have hl : lv_has ls 5 [(0, .ref (a 0)), (1, .int k)] := hl
  show gGo l p e s m below meth c D t A 0 [.ref (a 0), .int k] (wMd t a) (fun r u => r = mBT (σ 11) np k np 0 ∧ u = σ) s.heap [] (F0 m 0 ls [])
  have cut_15 : ∀ (n : Nat) (r : Nat) (q : Nat) (bf : Int32) (H : Heap) (locs : List Loc) (ls : Array Slot), r ≤ np → q < np → np + 1 ≤ r + n → bf = mBef (σ 11) q r → (∀ (H : Heap) (locs : List Loc) (ls : Array Slot), va_P D gCl (wMd t a σ) H → va_D A (wMd t a σ) → va_S A s.heap H locs → lv_has ls 5 [(0, .ref (a 0)), (1, .int k), (2, .int (nI q)), (3, .int (mBef (σ 11) q np))] → gGo l p e s m below meth c D t A 0 [.ref (a 0), .int k] (wMd t a) (fun r u => r = mBT (σ 11) np k np 0 ∧ u = σ) H locs (F0 m 76 ls [])) → va_P D gCl (wMd t a σ) H → va_D A (wMd t a σ) → va_S A s.heap H locs → lv_has ls 5 [(0, .ref (a 0)), (1, .int k), (2, .int (nI q)), (3, .int bf), (4, .int (nI r))] → gGo l p e s m below meth c D t A 0 [.ref (a 0), .int k] (wMd t a) (fun r u => r = mBT (σ 11) np k np 0 ∧ u = σ) H locs (F0 m 15 ls []) := by
    intro n
    induction n with
    | zero =>
      intro r q bf H locs ls hr1 hq hf hs hX hP hD hS hl
      exact absurd hf (by omega)
    | succ n ih =>
      intro r q bf H locs ls hr1 hq hf hs hX hP hD hS hl
      refine lv_iload hx hb d_Md_byThickness_15 (lv_at hl 4 rfl) ?_
      refine lv_aload_n hx hb d_Md_byThickness_17 rfl (lv_at hl 0 rfl) ?_
      refine va_get (D := D) (ci := 7) (v := .int (σ 8 0)) (C := R_Md) (T := F_Md) (N := 34) hx hb hts (fun w h => List.mem_cons_of_mem _ (i_Md w h)) hown hK.1 hP 0 (wMd_0 t a σ) rfl 8 (by decide) (hts (.fieldLink R_Md 113 "FlatBoxesModel" "parts" "I") (List.mem_cons_of_mem _ (gIn k_674 (by decide +kernel)))) (fun _ h9 => h9) rfl d_Md_byThickness_18 ?_
      refine lv_topi (fun v_1 e_1 => ?_)
      obtain rfl : v_1 = nI np := e_1.trans hN
      refine lv_icmp_ge (tgt := 76) hx hb d_Md_byThickness_21 (by decide) (fun c_2 => ?_) (fun c_2 => ?_)
      · 
        have h_2 : np ≤ r := (nI_leI (a := np) (b := r) (by omega) (by omega)).mp c_2
        obtain rfl : r = np := by omega
        subst hs
        exact hX _ _ _  hP hD hS (lv_sub hl [0, 1, 2, 3] rfl)
      · 
        have h_2 : ¬ np ≤ r := fun q9 => c_2 ((nI_leI (a := np) (b := r) (by omega) (by omega)).mpr q9)
        refine lv_iload_n hx hb d_Md_byThickness_24 rfl (lv_at hl 3 rfl) ?_
        refine lv_aload_n hx hb d_Md_byThickness_25 rfl (lv_at hl 0 rfl) ?_
        refine va_get (D := D) (ci := 7) (v := .ref (a 11)) (C := R_Md) (T := F_Md) (N := 34) hx hb hts (fun w h => List.mem_cons_of_mem _ (i_Md w h)) hown hK.1 hP 0 (wMd_0 t a σ) rfl 11 (by decide) (hts (.fieldLink R_Md 31 "FlatBoxesModel" "thicks" "[I") (List.mem_cons_of_mem _ (gIn k_677 (by decide +kernel)))) (fun _ h9 => h9) rfl d_Md_byThickness_26 ?_
        refine lv_iload hx hb d_Md_byThickness_29 (lv_at hl 4 rfl) ?_
        refine g_iald hx hb hK.1 hP 8 0 (wMd_11 t a σ) rfl r (rfl) (by omega) (by decide) d_Md_byThickness_31 ?_
        refine lv_aload_n hx hb d_Md_byThickness_32 rfl (lv_at hl 0 rfl) ?_
        refine va_get (D := D) (ci := 7) (v := .ref (a 11)) (C := R_Md) (T := F_Md) (N := 34) hx hb hts (fun w h => List.mem_cons_of_mem _ (i_Md w h)) hown hK.1 hP 0 (wMd_0 t a σ) rfl 11 (by decide) (hts (.fieldLink R_Md 31 "FlatBoxesModel" "thicks" "[I") (List.mem_cons_of_mem _ (gIn k_677 (by decide +kernel)))) (fun _ h9 => h9) rfl d_Md_byThickness_33 ?_
        refine lv_iload_n hx hb d_Md_byThickness_36 rfl (lv_at hl 2 rfl) ?_
        refine g_iald hx hb hK.1 hP 8 0 (wMd_11 t a σ) rfl q (rfl) (by omega) (by decide) d_Md_byThickness_37 ?_
        refine lv_icmp_gt (tgt := 63) hx hb d_Md_byThickness_38 (by decide) (fun c_3 => ?_) (fun c_3 => ?_)
        · 
          refine lv_iconst (v := 1) hx hb d_Md_byThickness_63 (by decide) ?_
          refine lv_goto (tgt := 68) hx hb d_Md_byThickness_64 (by decide) ?_
          refine lv_iadd hx hb d_Md_byThickness_68 ?_
          refine lv_istore_n (lv' := [(3, .int (bf + 1)), (0, .ref (a 0)), (1, .int k), (2, .int (nI q)), (4, .int (nI r))]) hx hb d_Md_byThickness_69 rfl hl (by decide) rfl (fun ls hl => ?_)
          refine lv_iinc (v := nI (r + 1)) (lv' := [(4, .int (nI (r + 1))), (3, .int (bf + 1)), (0, .ref (a 0)), (1, .int k), (2, .int (nI q))]) hx hb d_Md_byThickness_70 hl (k := 4) rfl (nI_1 r) (by decide) rfl (fun ls hl => ?_)
          refine lv_goto (tgt := 15) hx hb d_Md_byThickness_73 (by decide) ?_
          exact ih (r + 1) q (bf + 1) _ _ _ (by omega) (by omega) (by omega) (by rw [hs]; simp [mBef, c_2, h_2, c_3]) hX hP hD hS (lv_sub hl [2, 3, 4, 1, 0] rfl)
        · 
          refine lv_aload_n hx hb d_Md_byThickness_41 rfl (lv_at hl 0 rfl) ?_
          refine va_get (D := D) (ci := 7) (v := .ref (a 11)) (C := R_Md) (T := F_Md) (N := 34) hx hb hts (fun w h => List.mem_cons_of_mem _ (i_Md w h)) hown hK.1 hP 0 (wMd_0 t a σ) rfl 11 (by decide) (hts (.fieldLink R_Md 31 "FlatBoxesModel" "thicks" "[I") (List.mem_cons_of_mem _ (gIn k_677 (by decide +kernel)))) (fun _ h9 => h9) rfl d_Md_byThickness_42 ?_
          refine lv_iload hx hb d_Md_byThickness_45 (lv_at hl 4 rfl) ?_
          refine g_iald hx hb hK.1 hP 8 0 (wMd_11 t a σ) rfl r (rfl) (by omega) (by decide) d_Md_byThickness_47 ?_
          refine lv_aload_n hx hb d_Md_byThickness_48 rfl (lv_at hl 0 rfl) ?_
          refine va_get (D := D) (ci := 7) (v := .ref (a 11)) (C := R_Md) (T := F_Md) (N := 34) hx hb hts (fun w h => List.mem_cons_of_mem _ (i_Md w h)) hown hK.1 hP 0 (wMd_0 t a σ) rfl 11 (by decide) (hts (.fieldLink R_Md 31 "FlatBoxesModel" "thicks" "[I") (List.mem_cons_of_mem _ (gIn k_677 (by decide +kernel)))) (fun _ h9 => h9) rfl d_Md_byThickness_49 ?_
          refine lv_iload_n hx hb d_Md_byThickness_52 rfl (lv_at hl 2 rfl) ?_
          refine g_iald hx hb hK.1 hP 8 0 (wMd_11 t a σ) rfl q (rfl) (by omega) (by decide) d_Md_byThickness_53 ?_
          refine lv_icmp_ne (tgt := 67) hx hb d_Md_byThickness_54 (by decide) (fun c_4 => ?_) (fun c_4 => ?_)
          · 
            refine lv_iconst (v := 0) hx hb d_Md_byThickness_67 (by decide) ?_
            refine lv_iadd hx hb d_Md_byThickness_68 ?_
            refine lv_istore_n (lv' := [(3, .int (bf + 0)), (0, .ref (a 0)), (1, .int k), (2, .int (nI q)), (4, .int (nI r))]) hx hb d_Md_byThickness_69 rfl hl (by decide) rfl (fun ls hl => ?_)
            refine lv_iinc (v := nI (r + 1)) (lv' := [(4, .int (nI (r + 1))), (3, .int (bf + 0)), (0, .ref (a 0)), (1, .int k), (2, .int (nI q))]) hx hb d_Md_byThickness_70 hl (k := 4) rfl (nI_1 r) (by decide) rfl (fun ls hl => ?_)
            refine lv_goto (tgt := 15) hx hb d_Md_byThickness_73 (by decide) ?_
            exact ih (r + 1) q (bf + 0) _ _ _ (by omega) (by omega) (by omega) (by rw [hs]; simp [mBef, c_2, h_2, c_3, c_4]) hX hP hD hS (lv_sub hl [2, 3, 4, 1, 0] rfl)
          · 
            refine lv_iload hx hb d_Md_byThickness_57 (lv_at hl 4 rfl) ?_
            refine lv_iload_n hx hb d_Md_byThickness_59 rfl (lv_at hl 2 rfl) ?_
            refine lv_icmp_ge (tgt := 67) hx hb d_Md_byThickness_60 (by decide) (fun c_5 => ?_) (fun c_5 => ?_)
            · 
              have h_5 : q ≤ r := (nI_leI (a := q) (b := r) (by omega) (by omega)).mp c_5
              refine lv_iconst (v := 0) hx hb d_Md_byThickness_67 (by decide) ?_
              refine lv_iadd hx hb d_Md_byThickness_68 ?_
              refine lv_istore_n (lv' := [(3, .int (bf + 0)), (0, .ref (a 0)), (1, .int k), (2, .int (nI q)), (4, .int (nI r))]) hx hb d_Md_byThickness_69 rfl hl (by decide) rfl (fun ls hl => ?_)
              refine lv_iinc (v := nI (r + 1)) (lv' := [(4, .int (nI (r + 1))), (3, .int (bf + 0)), (0, .ref (a 0)), (1, .int k), (2, .int (nI q))]) hx hb d_Md_byThickness_70 hl (k := 4) rfl (nI_1 r) (by decide) rfl (fun ls hl => ?_)
              refine lv_goto (tgt := 15) hx hb d_Md_byThickness_73 (by decide) ?_
              exact ih (r + 1) q (bf + 0) _ _ _ (by omega) (by omega) (by omega) (by rw [hs]; simp [mBef, c_2, h_2, c_3, c_4, c_5, h_5]) hX hP hD hS (lv_sub hl [2, 3, 4, 1, 0] rfl)
            · 
              have h_5 : ¬ q ≤ r := fun q9 => c_5 ((nI_leI (a := q) (b := r) (by omega) (by omega)).mpr q9)
              refine lv_iconst (v := 1) hx hb d_Md_byThickness_63 (by decide) ?_
              refine lv_goto (tgt := 68) hx hb d_Md_byThickness_64 (by decide) ?_
              refine lv_iadd hx hb d_Md_byThickness_68 ?_
              refine lv_istore_n (lv' := [(3, .int (bf + 1)), (0, .ref (a 0)), (1, .int k), (2, .int (nI q)), (4, .int (nI r))]) hx hb d_Md_byThickness_69 rfl hl (by decide) rfl (fun ls hl => ?_)
              refine lv_iinc (v := nI (r + 1)) (lv' := [(4, .int (nI (r + 1))), (3, .int (bf + 1)), (0, .ref (a 0)), (1, .int k), (2, .int (nI q))]) hx hb d_Md_byThickness_70 hl (k := 4) rfl (nI_1 r) (by decide) rfl (fun ls hl => ?_)
              refine lv_goto (tgt := 15) hx hb d_Md_byThickness_73 (by decide) ?_
              exact ih (r + 1) q (bf + 1) _ _ _ (by omega) (by omega) (by omega) (by rw [hs]; simp [mBef, c_2, h_2, c_3, c_4, c_5, h_5]) hX hP hD hS (lv_sub hl [2, 3, 4, 1, 0] rfl)
  have cut_2 : ∀ (n : Nat) (d : Nat) (q : Nat) (H : Heap) (locs : List Loc) (ls : Array Slot), q + d = np → d + 1 ≤ n → mBT (σ 11) np k np 0 = mBT (σ 11) np k d q → va_P D gCl (wMd t a σ) H → va_D A (wMd t a σ) → va_S A s.heap H locs → lv_has ls 5 [(0, .ref (a 0)), (1, .int k), (2, .int (nI q))] → gGo l p e s m below meth c D t A 0 [.ref (a 0), .int k] (wMd t a) (fun r u => r = mBT (σ 11) np k np 0 ∧ u = σ) H locs (F0 m 2 ls []) := by
    intro n
    induction n with
    | zero =>
      intro d q H locs ls hd hf hs hP hD hS hl
      exact absurd hf (by omega)
    | succ n ih =>
      intro d q H locs ls hd hf hs hP hD hS hl
      refine lv_iload_n hx hb d_Md_byThickness_2 rfl (lv_at hl 2 rfl) ?_
      refine lv_aload_n hx hb d_Md_byThickness_3 rfl (lv_at hl 0 rfl) ?_
      refine va_get (D := D) (ci := 7) (v := .int (σ 8 0)) (C := R_Md) (T := F_Md) (N := 34) hx hb hts (fun w h => List.mem_cons_of_mem _ (i_Md w h)) hown hK.1 hP 0 (wMd_0 t a σ) rfl 8 (by decide) (hts (.fieldLink R_Md 113 "FlatBoxesModel" "parts" "I") (List.mem_cons_of_mem _ (gIn k_674 (by decide +kernel)))) (fun _ h9 => h9) rfl d_Md_byThickness_4 ?_
      refine lv_topi (fun v_6 e_6 => ?_)
      obtain rfl : v_6 = nI np := e_6.trans hN
      refine lv_icmp_ge (tgt := 89) hx hb d_Md_byThickness_7 (by decide) (fun c_7 => ?_) (fun c_7 => ?_)
      · 
        have h_7 : np ≤ q := (nI_leI (a := np) (b := q) (by omega) (by omega)).mp c_7
        refine lv_iconst (v := -1) hx hb d_Md_byThickness_89 (by decide) ?_
        exact W.iret (v := -1) hx hb hr (fun U hU hW => ⟨⟨-1, σ, rfl, by exact ⟨by rw [hs]; obtain rfl : d = 0 := (by omega); rfl, rfl⟩, by rw [hU]; exact hP, hD⟩, hS.F hU⟩) hS.2.2 d_Md_byThickness_90
      · 
        have h_7 : ¬ np ≤ q := fun q9 => c_7 ((nI_leI (a := np) (b := q) (by omega) (by omega)).mpr q9)
        obtain ⟨d, rfl⟩ : ∃ d9, d = d9 + 1 := ⟨d - 1, by omega⟩
        refine lv_iconst (v := 0) hx hb d_Md_byThickness_10 (by decide) ?_
        refine lv_istore_n (lv' := [(3, .int 0), (0, .ref (a 0)), (1, .int k), (2, .int (nI q))]) hx hb d_Md_byThickness_11 rfl hl (by decide) rfl (fun ls hl => ?_)
        refine lv_iconst (v := 0) hx hb d_Md_byThickness_12 (by decide) ?_
        refine lv_istore (lv' := [(4, .int 0), (3, .int 0), (0, .ref (a 0)), (1, .int k), (2, .int (nI q))]) hx hb d_Md_byThickness_13 hl (by decide) rfl (fun ls hl => ?_)
        refine cut_15 (np + 1) 0 q 0 _ _ _ (by omega) (by omega) (by omega) (by rfl) (fun H locs ls  hP hD hS hl => ?_) hP hD hS (lv_sub hl [2, 3, 4, 1, 0] rfl)
        refine lv_iload_n hx hb d_Md_byThickness_76 rfl (lv_at hl 3 rfl) ?_
        refine lv_iload_n hx hb d_Md_byThickness_77 rfl (lv_at hl 1 rfl) ?_
        refine lv_icmp_ne (tgt := 83) hx hb d_Md_byThickness_78 (by decide) (fun c_8 => ?_) (fun c_8 => ?_)
        · 
          refine lv_iinc (v := nI (q + 1)) (lv' := [(2, .int (nI (q + 1))), (0, .ref (a 0)), (1, .int k), (3, .int (mBef (σ 11) q np))]) hx hb d_Md_byThickness_83 hl (k := 2) rfl (nI_1 q) (by decide) rfl (fun ls hl => ?_)
          refine lv_goto (tgt := 2) hx hb d_Md_byThickness_86 (by decide) ?_
          exact ih d (q + 1) _ _ _ (by omega) (by omega) (by rw [hs]; simp [mBT, c_7, h_7, c_8]) hP hD hS (lv_sub hl [1, 2, 0] rfl)
        · 
          refine lv_iload_n hx hb d_Md_byThickness_81 rfl (lv_at hl 2 rfl) ?_
          exact W.iret (v := nI q) hx hb hr (fun U hU hW => ⟨⟨nI q, σ, rfl, by exact ⟨by rw [hs]; simp [mBT, c_7, h_7, c_8], rfl⟩, by rw [hU]; exact hP, hD⟩, hS.F hU⟩) hS.2.2 d_Md_byThickness_82
  refine lv_iconst (v := 0) hx hb d_Md_byThickness_0 (by decide) ?_
  refine lv_istore_n (lv' := [(2, .int 0), (0, .ref (a 0)), (1, .int k)]) hx hb d_Md_byThickness_1 rfl hl (by decide) rfl (fun ls hl => ?_)
  exact cut_2 (np + 1) np 0 _ _ _ (by omega) (by omega) (rfl) hP hD hS (lv_sub hl [1, 2, 0] rfl)
