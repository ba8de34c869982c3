abbrev gGo {S : Type} (l : Launch) (p : Program) (e : Env) (s : State) (m : MethodId) (below : List Frame) (meth : Method) (c : Code) (D : va_G) (t : Nat → ClassId) (A : Nat → Prop) (n : Nat) (av : List Value) (wd : S → va_W) (post : Int32 → S → Prop) (H : Heap) (locs : List Loc) (g : JFrame) : Prop :=
  W p l e (gRm n) s m av.toArray below meth c H locs 0 0 (MQ below (va_Qi post (fun u U => va_P D gCl (wd u) U.heap ∧ va_D A (wd u)) A) av.toArray s 0 0 A) g
abbrev gGov {S : Type} (l : Launch) (p : Program) (e : Env) (s : State) (m : MethodId) (below : List Frame) (meth : Method) (c : Code) (D : va_G) (t : Nat → ClassId) (A : Nat → Prop) (n : Nat) (av : List Value) (wd : S → va_W) (post : S → Prop) (H : Heap) (locs : List Loc) (g : JFrame) : Prop :=
  W p l e (gRm n) s m av.toArray below meth c H locs 0 0 (MQ below (va_Qv post (fun u U => va_P D gCl (wd u) U.heap ∧ va_D A (wd u)) A) av.toArray s 0 0 A) g

/-! the reference's methods as functions of its picture σ; fields by their numbers -/
def mIn (v lo hi : Int32) : Int32 := if v < lo then 0 else if hi < v then 0 else 1
def mSide (v : Int32) : Int32 := mIn v 1 100
def mHas (set q : Int32) : Int32 := if (set >>> (q &&& 31)) &&& 1 = 1 then 1 else 0
def mWithin (v sum spr : Int32) : Int32 := if v < sum - spr then 0 else if sum + spr < v then 0 else 1
def mSum (f : Nat → Int32) : Nat → Int32
  | 0 => 0
  | k + 1 => mSum f k + f k
def mGrams (σ : Nat → Nat → Int32) (set : Int32) : Nat → Int32
  | 0 => 0
  | k + 1 => mGrams σ set k + (if mHas set (nI k) = 0 then 0 else σ 12 k)
theorem mHas01 (set q : Int32) : mHas set q = 0 ∨ mHas set q = 1 := by unfold mHas; split <;> simp
theorem mIn01 (v lo hi : Int32) : mIn v lo hi = 0 ∨ mIn v lo hi = 1 := by unfold mIn; split; simp; split <;> simp

theorem gg_Md_96 (w0 : Cond) : GoodIn (w0 :: gBig) (wsS R_Md 96 y_Md_in (.code y_Md_in b_Md_in 3 (some .boolean) :: gBig)) := gGoodS (gIn k_780 (by decide +kernel)) (gIn k_781 (by decide +kernel)) (gIn k_9 (by decide +kernel)) (gIn k_782 (by decide +kernel))
theorem gg_Md_123 (w0 : Cond) : GoodIn (w0 :: gBig) (wsV R_Md 123 R_Md y_Md_has (.code y_Md_has b_Md_has 3 (some .boolean) :: gBig)) := gGoodV (gIn k_805 (by decide +kernel)) (gIn k_807 (by decide +kernel)) (gInP (List.mem_of_getElem? (i := 18) (by decide +kernel)) (by decide +kernel)) (gIn k_9 (by decide +kernel)) (gIn k_808 (by decide +kernel))
set_option maxHeartbeats 4000000 in
set_option maxRecDepth 100000 in
theorem c_Md_thrown (l : Launch) (D : va_G) (t : Nat → ClassId) (a : Nat → Nat) (σ : Nat → Nat → Int32)  : gMi l D t y_Md_thrown b_Md_thrown 1 (some .int) 0 [.ref (a 0)] (wMd t a σ) (wMd t a) (fun r u => r = σ 0 0 ∧ u = σ) := by
  intro A
  refine Met.ofW (cc := b_Md_thrown) (maxL := 1) (ret := (some .int)) (by decide) rfl ?_
  intro p e s m args below meth c s₁ B hml hv
  obtain ⟨rfl, hK, hP, hD⟩ := hv
  have hx := B.exec
  have hb := B.bytes
  have hr := B.returns
  have hts := atoms_spec (ws := .code y_Md_thrown b_Md_thrown 1 (some .int) :: gBig) B.pre
  have hown : s.vm.findClass R_Md = some m.cls := findClass_of_methodNamed B.named
  have hlocks := B.notSynchronized
  have hS : va_S A s.heap s.heap [] := va_S.rf
  have hl := lv_entry ([.ref (a 0)]) (n := 1) (Nat.le_of_ble_eq_true rfl)
  rw [lg_entry_eq]
  generalize (lg_sl ([.ref (a 0)]) ++ List.replicate (1 - (lg_sl ([.ref (a 0)])).length) Slot.unset).toArray = ls at hl ⊢
  have hl : lv_has ls 1 [(0, .ref (a 0))] := hl
  show gGo l p e s m below meth c D t A 0 [.ref (a 0)] (wMd t a) (fun r u => r = σ 0 0 ∧ u = σ) s.heap [] (F0 m 0 ls [])
  refine lv_aload_n hx hb d_Md_thrown_0 rfl (lv_at hl 0 rfl) ?_
  refine va_get (D := D) (ci := 7) (v := .int (σ 0 0)) (C := R_Md) (T := F_Md) (N := 34) hx hb hts (fun w h => List.mem_cons_of_mem _ (i_Md w h)) hown hK.1 hP 0 (wMd_0 t a σ) rfl 0 (by decide) (hts (.fieldLink R_Md 93 "FlatBoxesModel" "code" "I") (List.mem_cons_of_mem _ (gIn k_666 (by decide +kernel)))) (fun _ h9 => h9) rfl d_Md_thrown_1 ?_
  exact W.iret (v := σ 0 0) hx hb hr (fun U hU hW => ⟨⟨σ 0 0, σ, rfl, by exact ⟨rfl, rfl⟩, by rw [hU]; exact hP, hD⟩, hS.F hU⟩) hS.2.2 d_Md_thrown_4
set_option maxHeartbeats 4000000 in
set_option maxRecDepth 100000 in
theorem c_Md_in (l : Launch) (D : va_G) (t : Nat → ClassId) (a : Nat → Nat) (σ : Nat → Nat → Int32) (v lo hi : Int32) : gMi l D t y_Md_in b_Md_in 3 (some .boolean) 0 [.int v, .int lo, .int hi] (wMd t a σ) (wMd t a) (fun r u => r = mIn v lo hi ∧ u = σ) := by
  intro A
  refine Met.ofW (cc := b_Md_in) (maxL := 3) (ret := (some .boolean)) (by decide) rfl ?_
  intro p e s m args below meth c s₁ B hml hv
  obtain ⟨rfl, hK, hP, hD⟩ := hv
  have hx := B.exec
  have hb := B.bytes
  have hr := B.returns
  have hts := atoms_spec (ws := .code y_Md_in b_Md_in 3 (some .boolean) :: gBig) B.pre
  have hown : s.vm.findClass R_Md = some m.cls := findClass_of_methodNamed B.named
  have hlocks := B.notSynchronized
  have hS : va_S A s.heap s.heap [] := va_S.rf
  have hl := lv_entry ([.int v, .int lo, .int hi]) (n := 3) (Nat.le_of_ble_eq_true rfl)
  rw [lg_entry_eq]
  generalize (lg_sl ([.int v, .int lo, .int hi]) ++ List.replicate (3 - (lg_sl ([.int v, .int lo, .int hi])).length) Slot.unset).toArray = ls at hl ⊢
  have hl : lv_has ls 3 [(0, .int v), (1, .int lo), (2, .int hi)] := hl
  show gGo l p e s m below meth c D t A 0 [.int v, .int lo, .int hi] (wMd t a) (fun r u => r = mIn v lo hi ∧ u = σ) s.heap [] (F0 m 0 ls [])
  refine lv_iload_n hx hb d_Md_in_0 rfl (lv_at hl 0 rfl) ?_
  refine lv_iload_n hx hb d_Md_in_1 rfl (lv_at hl 1 rfl) ?_
  refine lv_icmp_lt (tgt := 14) hx hb d_Md_in_2 (by decide) (fun c_1 => ?_) (fun c_1 => ?_)
  · 
    refine lv_iconst (v := 0) hx hb d_Md_in_14 (by decide) ?_
    exact W.zret (v := 0) (ty := .boolean) hx hb hr (rfl) (fun U hU hW => ⟨⟨0, σ, rfl, by exact ⟨by simp [mIn, c_1], rfl⟩, by rw [hU]; exact hP, hD⟩, hS.F hU⟩) hS.2.2 d_Md_in_15
  · 
    refine lv_iload_n hx hb d_Md_in_5 rfl (lv_at hl 0 rfl) ?_
    refine lv_iload_n hx hb d_Md_in_6 rfl (lv_at hl 2 rfl) ?_
    refine lv_icmp_gt (tgt := 14) hx hb d_Md_in_7 (by decide) (fun c_2 => ?_) (fun c_2 => ?_)
    · 
      refine lv_iconst (v := 0) hx hb d_Md_in_14 (by decide) ?_
      exact W.zret (v := 0) (ty := .boolean) hx hb hr (rfl) (fun U hU hW => ⟨⟨0, σ, rfl, by exact ⟨by simp [mIn, c_1, c_2], rfl⟩, by rw [hU]; exact hP, hD⟩, hS.F hU⟩) hS.2.2 d_Md_in_15
    · 
      refine lv_iconst (v := 1) hx hb d_Md_in_10 (by decide) ?_
      refine lv_goto (tgt := 15) hx hb d_Md_in_11 (by decide) ?_
      exact W.zret (v := 1) (ty := .boolean) hx hb hr (rfl) (fun U hU hW => ⟨⟨1, σ, rfl, by exact ⟨by simp [mIn, c_1, c_2], rfl⟩, by rw [hU]; exact hP, hD⟩, hS.F hU⟩) hS.2.2 d_Md_in_15
set_option maxHeartbeats 4000000 in
set_option maxRecDepth 100000 in
theorem c_Md_isSide (l : Launch) (D : va_G) (t : Nat → ClassId) (a : Nat → Nat) (σ : Nat → Nat → Int32) (v : Int32) : gMi l D t y_Md_isSide b_Md_isSide 1 (some .boolean) 1 [.int v] (wMd t a σ) (wMd t a) (fun r u => r = mSide v ∧ u = σ) := by
  intro A
  refine Met.ofW (cc := b_Md_isSide) (maxL := 1) (ret := (some .boolean)) (by decide) rfl ?_
  intro p e s m args below meth c s₁ B hml hv
  obtain ⟨rfl, hK, hP, hD⟩ := hv
  have hx := B.exec
  have hb := B.bytes
  have hr := B.returns
  have hts := atoms_spec (ws := .code y_Md_isSide b_Md_isSide 1 (some .boolean) :: gBig) B.pre
  have hown : s.vm.findClass R_Md = some m.cls := findClass_of_methodNamed B.named
  have hlocks := B.notSynchronized
  have hS : va_S A s.heap s.heap [] := va_S.rf
  have hl := lv_entry ([.int v]) (n := 1) (Nat.le_of_ble_eq_true rfl)
  rw [lg_entry_eq]
  generalize (lg_sl ([.int v]) ++ List.replicate (1 - (lg_sl ([.int v])).length) Slot.unset).toArray = ls at hl ⊢
  have hl : lv_has ls 1 [(0, .int v)] := hl
  show gGo l p e s m below meth c D t A 1 [.int v] (wMd t a) (fun r u => r = mSide v ∧ u = σ) s.heap [] (F0 m 0 ls [])
  refine lv_iload_n hx hb d_Md_isSide_0 rfl (lv_at hl 0 rfl) ?_
  refine lv_iconst (v := 1) hx hb d_Md_isSide_1 (by decide) ?_
  refine lv_bipush (v := 100) hx hb d_Md_isSide_2 (by decide) ?_
  refine g_si (k := 3) (As := [.int v, .int 1, .int 100]) (rest := []) (own := R_Md) (index := 96) ⟨hx, hb, hml, hown, hts⟩ (c_Md_in l D t a σ v 1 100) (gg_Md_96 _) (by decide +kernel) ⟨Nat.le_of_ble_eq_true rfl, Nat.le_of_ble_eq_true rfl⟩ rfl hK hP hD hS hl.1 rfl (Nat.le_of_ble_eq_true rfl) ⟨Nat.zero_le _, Nat.zero_le _⟩ d_Md_isSide_4 (fun r_1 u_1 H locs q_1 hP hD hS => ?_)
  obtain ⟨rfl, hu_1⟩ := q_1
  rw [hu_1] at hP hD
  exact W.zret (v := mIn v 1 100) (ty := .boolean) hx hb hr (gb_n (mIn01 _ _ _)) (fun U hU hW => ⟨⟨mIn v 1 100, σ, rfl, by exact ⟨rfl, rfl⟩, by rw [hU]; exact hP, hD⟩, hS.F hU⟩) hS.2.2 d_Md_isSide_7
set_option maxHeartbeats 4000000 in
set_option maxRecDepth 100000 in
theorem c_Md_isWithin (l : Launch) (D : va_G) (t : Nat → ClassId) (a : Nat → Nat) (σ : Nat → Nat → Int32) (v sum spr : Int32) : gMi l D t y_Md_isWithin b_Md_isWithin 3 (some .boolean) 0 [.int v, .int sum, .int spr] (wMd t a σ) (wMd t a) (fun r u => r = mWithin v sum spr ∧ u = σ) := by
  intro A
  refine Met.ofW (cc := b_Md_isWithin) (maxL := 3) (ret := (some .boolean)) (by decide) rfl ?_
  intro p e s m args below meth c s₁ B hml hv
  obtain ⟨rfl, hK, hP, hD⟩ := hv
  have hx := B.exec
  have hb := B.bytes
  have hr := B.returns
  have hts := atoms_spec (ws := .code y_Md_isWithin b_Md_isWithin 3 (some .boolean) :: gBig) B.pre
  have hown : s.vm.findClass R_Md = some m.cls := findClass_of_methodNamed B.named
  have hlocks := B.notSynchronized
  have hS : va_S A s.heap s.heap [] := va_S.rf
  have hl := lv_entry ([.int v, .int sum, .int spr]) (n := 3) (Nat.le_of_ble_eq_true rfl)
  rw [lg_entry_eq]
  generalize (lg_sl ([.int v, .int sum, .int spr]) ++ List.replicate (3 - (lg_sl ([.int v, .int sum, .int spr])).length) Slot.unset).toArray = ls at hl ⊢
  have hl : lv_has ls 3 [(0, .int v), (1, .int sum), (2, .int spr)] := hl
  show gGo l p e s m below meth c D t A 0 [.int v, .int sum, .int spr] (wMd t a) (fun r u => r = mWithin v sum spr ∧ u = σ) s.heap [] (F0 m 0 ls [])
  refine lv_iload_n hx hb d_Md_isWithin_0 rfl (lv_at hl 0 rfl) ?_
  refine lv_iload_n hx hb d_Md_isWithin_1 rfl (lv_at hl 1 rfl) ?_
  refine lv_iload_n hx hb d_Md_isWithin_2 rfl (lv_at hl 2 rfl) ?_
  refine lv_isub hx hb d_Md_isWithin_3 ?_
  refine lv_icmp_lt (tgt := 18) hx hb d_Md_isWithin_4 (by decide) (fun c_1 => ?_) (fun c_1 => ?_)
  · 
    refine lv_iconst (v := 0) hx hb d_Md_isWithin_18 (by decide) ?_
    exact W.zret (v := 0) (ty := .boolean) hx hb hr (rfl) (fun U hU hW => ⟨⟨0, σ, rfl, by exact ⟨by simp [mWithin, c_1], rfl⟩, by rw [hU]; exact hP, hD⟩, hS.F hU⟩) hS.2.2 d_Md_isWithin_19
  · 
    refine lv_iload_n hx hb d_Md_isWithin_7 rfl (lv_at hl 0 rfl) ?_
    refine lv_iload_n hx hb d_Md_isWithin_8 rfl (lv_at hl 1 rfl) ?_
    refine lv_iload_n hx hb d_Md_isWithin_9 rfl (lv_at hl 2 rfl) ?_
    refine lv_iadd hx hb d_Md_isWithin_10 ?_
    refine lv_icmp_gt (tgt := 18) hx hb d_Md_isWithin_11 (by decide) (fun c_2 => ?_) (fun c_2 => ?_)
    · 
      refine lv_iconst (v := 0) hx hb d_Md_isWithin_18 (by decide) ?_
      exact W.zret (v := 0) (ty := .boolean) hx hb hr (rfl) (fun U hU hW => ⟨⟨0, σ, rfl, by exact ⟨by simp [mWithin, c_1, c_2], rfl⟩, by rw [hU]; exact hP, hD⟩, hS.F hU⟩) hS.2.2 d_Md_isWithin_19
    · 
      refine lv_iconst (v := 1) hx hb d_Md_isWithin_14 (by decide) ?_
      refine lv_goto (tgt := 19) hx hb d_Md_isWithin_15 (by decide) ?_
      exact W.zret (v := 1) (ty := .boolean) hx hb hr (rfl) (fun U hU hW => ⟨⟨1, σ, rfl, by exact ⟨by simp [mWithin, c_1, c_2], rfl⟩, by rw [hU]; exact hP, hD⟩, hS.F hU⟩) hS.2.2 d_Md_isWithin_19
set_option maxHeartbeats 4000000 in
set_option maxRecDepth 100000 in
theorem c_Md_has (l : Launch) (D : va_G) (t : Nat → ClassId) (a : Nat → Nat) (σ : Nat → Nat → Int32) (set q : Int32) : gMi l D t y_Md_has b_Md_has 3 (some .boolean) 0 [.ref (a 0), .int set, .int q] (wMd t a σ) (wMd t a) (fun r u => r = mHas set q ∧ u = σ) := by
  intro A
  refine Met.ofW (cc := b_Md_has) (maxL := 3) (ret := (some .boolean)) (by decide) rfl ?_
  intro p e s m args below meth c s₁ B hml hv
  obtain ⟨rfl, hK, hP, hD⟩ := hv
  have hx := B.exec
  have hb := B.bytes
  have hr := B.returns
  have hts := atoms_spec (ws := .code y_Md_has b_Md_has 3 (some .boolean) :: gBig) B.pre
  have hown : s.vm.findClass R_Md = some m.cls := findClass_of_methodNamed B.named
  have hlocks := B.notSynchronized
  have hS : va_S A s.heap s.heap [] := va_S.rf
  have hl := lv_entry ([.ref (a 0), .int set, .int q]) (n := 3) (Nat.le_of_ble_eq_true rfl)
  rw [lg_entry_eq]
  generalize (lg_sl ([.ref (a 0), .int set, .int q]) ++ List.replicate (3 - (lg_sl ([.ref (a 0), .int set, .int q])).length) Slot.unset).toArray = ls at hl ⊢
  have hl : lv_has ls 3 [(0, .ref (a 0)), (1, .int set), (2, .int q)] := hl
  show gGo l p e s m below meth c D t A 0 [.ref (a 0), .int set, .int q] (wMd t a) (fun r u => r = mHas set q ∧ u = σ) s.heap [] (F0 m 0 ls [])
  refine lv_iload_n hx hb d_Md_has_0 rfl (lv_at hl 1 rfl) ?_
  refine lv_iload_n hx hb d_Md_has_1 rfl (lv_at hl 2 rfl) ?_
  refine lv_ishr hx hb d_Md_has_2 ?_
  refine lv_iconst (v := 1) hx hb d_Md_has_3 (by decide) ?_
  refine lv_iand hx hb d_Md_has_4 ?_
  refine lv_iconst (v := 1) hx hb d_Md_has_5 (by decide) ?_
  refine lv_icmp_ne (tgt := 13) hx hb d_Md_has_6 (by decide) (fun c_1 => ?_) (fun c_1 => ?_)
  · 
    refine lv_iconst (v := 0) hx hb d_Md_has_13 (by decide) ?_
    exact W.zret (v := 0) (ty := .boolean) hx hb hr (rfl) (fun U hU hW => ⟨⟨0, σ, rfl, by exact ⟨by simp [mHas, c_1], rfl⟩, by rw [hU]; exact hP, hD⟩, hS.F hU⟩) hS.2.2 d_Md_has_14
  · 
    refine lv_iconst (v := 1) hx hb d_Md_has_9 (by decide) ?_
    refine lv_goto (tgt := 14) hx hb d_Md_has_10 (by decide) ?_
    exact W.zret (v := 1) (ty := .boolean) hx hb hr (rfl) (fun U hU hW => ⟨⟨1, σ, rfl, by exact ⟨by simp [mHas, c_1], rfl⟩, by rw [hU]; exact hP, hD⟩, hS.F hU⟩) hS.2.2 d_Md_has_14
set_option maxHeartbeats 4000000 in
set_option maxRecDepth 100000 in
theorem c_Md_highOf (l : Launch) (D : va_G) (t : Nat → ClassId) (a : Nat → Nat) (σ : Nat → Nat → Int32) (L : Nat) (hL : σ 17 0 = nI L) (hL8 : L ≤ 8) : gMi l D t y_Md_highOf b_Md_highOf 3 (some .int) 0 [.ref (a 0)] (wMd t a σ) (wMd t a) (fun r u => r = mSum (σ 19) L ∧ u = σ) := by
  intro A
  refine Met.ofW (cc := b_Md_highOf) (maxL := 3) (ret := (some .int)) (by decide) rfl ?_
  intro p e s m args below meth c s₁ B hml hv
  obtain ⟨rfl, hK, hP, hD⟩ := hv
  have hx := B.exec
  have hb := B.bytes
  have hr := B.returns
  have hts := atoms_spec (ws := .code y_Md_highOf b_Md_highOf 3 (some .int) :: gBig) B.pre
  have hown : s.vm.findClass R_Md = some m.cls := findClass_of_methodNamed B.named
  have hlocks := B.notSynchronized
  have hS : va_S A s.heap s.heap [] := va_S.rf
  have hl := lv_entry ([.ref (a 0)]) (n := 3) (Nat.le_of_ble_eq_true rfl)
  rw [lg_entry_eq]
  generalize (lg_sl ([.ref (a 0)]) ++ List.replicate (3 - (lg_sl ([.ref (a 0)])).length) Slot.unset).toArray = ls at hl ⊢
  have hl : lv_has ls 3 [(0, .ref (a 0))] := hl
  show gGo l p e s m below meth c D t A 0 [.ref (a 0)] (wMd t a) (fun r u => r = mSum (σ 19) L ∧ u = σ) s.heap [] (F0 m 0 ls [])
  have cut_4 : ∀ (n : Nat) (k : Nat) (sm : Int32) (H : Heap) (locs : List Loc) (ls : Array Slot), k ≤ L → L + 1 ≤ k + n → sm = mSum (σ 19) k → va_P D gCl (wMd t a σ) H → va_D A (wMd t a σ) → va_S A s.heap H locs → lv_has ls 3 [(0, .ref (a 0)), (1, .int sm), (2, .int (nI k))] → gGo l p e s m below meth c D t A 0 [.ref (a 0)] (wMd t a) (fun r u => r = mSum (σ 19) L ∧ u = σ) H locs (F0 m 4 ls []) := by
    intro n
    induction n with
    | zero =>
      intro k sm H locs ls hk hf hs hP hD hS hl
      exact absurd hf (by omega)
    | succ n ih =>
      intro k sm H locs ls hk hf hs hP hD hS hl
      refine lv_iload_n hx hb d_Md_highOf_4 rfl (lv_at hl 2 rfl) ?_
      refine lv_aload_n hx hb d_Md_highOf_5 rfl (lv_at hl 0 rfl) ?_
      refine va_get (D := D) (ci := 7) (v := .int (σ 17 0)) (C := R_Md) (T := F_Md) (N := 34) hx hb hts (fun w h => List.mem_cons_of_mem _ (i_Md w h)) hown hK.1 hP 0 (wMd_0 t a σ) rfl 17 (by decide) (hts (.fieldLink R_Md 116 "FlatBoxesModel" "layers" "I") (List.mem_cons_of_mem _ (gIn k_683 (by decide +kernel)))) (fun _ h9 => h9) rfl d_Md_highOf_6 ?_
      refine lv_topi (fun v_1 e_1 => ?_)
      obtain rfl : v_1 = nI L := e_1.trans hL
      refine lv_icmp_ge (tgt := 27) hx hb d_Md_highOf_9 (by decide) (fun c_2 => ?_) (fun c_2 => ?_)
      · 
        have h_2 : L ≤ k := (nI_leI (a := L) (b := k) (by omega) (by omega)).mp c_2
        refine lv_iload_n hx hb d_Md_highOf_27 rfl (lv_at hl 1 rfl) ?_
        exact W.iret (v := sm) hx hb hr (fun U hU hW => ⟨⟨sm, σ, rfl, by exact ⟨by rw [hs]; congr 1; omega, rfl⟩, by rw [hU]; exact hP, hD⟩, hS.F hU⟩) hS.2.2 d_Md_highOf_28
      · 
        have h_2 : ¬ L ≤ k := fun q9 => c_2 ((nI_leI (a := L) (b := k) (by omega) (by omega)).mpr q9)
        refine lv_iload_n hx hb d_Md_highOf_12 rfl (lv_at hl 1 rfl) ?_
        refine lv_aload_n hx hb d_Md_highOf_13 rfl (lv_at hl 0 rfl) ?_
        refine va_get (D := D) (ci := 7) (v := .ref (a 19)) (C := R_Md) (T := F_Md) (N := 34) hx hb hts (fun w h => List.mem_cons_of_mem _ (i_Md w h)) hown hK.1 hP 0 (wMd_0 t a σ) rfl 19 (by decide) (hts (.fieldLink R_Md 53 "FlatBoxesModel" "highs" "[I") (List.mem_cons_of_mem _ (gIn k_685 (by decide +kernel)))) (fun _ h9 => h9) rfl d_Md_highOf_14 ?_
        refine lv_iload_n hx hb d_Md_highOf_17 rfl (lv_at hl 2 rfl) ?_
        refine g_iald hx hb hK.1 hP 15 0 (wMd_19 t a σ) rfl k (rfl) (by omega) (by decide) d_Md_highOf_18 ?_
        refine lv_iadd hx hb d_Md_highOf_19 ?_
        refine lv_istore_n (lv' := [(1, .int (sm + (σ 19 k))), (0, .ref (a 0)), (2, .int (nI k))]) hx hb d_Md_highOf_20 rfl hl (by decide) rfl (fun ls hl => ?_)
        refine lv_iinc (v := nI (k + 1)) (lv' := [(2, .int (nI (k + 1))), (1, .int (sm + (σ 19 k))), (0, .ref (a 0))]) hx hb d_Md_highOf_21 hl (k := 2) rfl (nI_1 k) (by decide) rfl (fun ls hl => ?_)
        refine lv_goto (tgt := 4) hx hb d_Md_highOf_24 (by decide) ?_
        exact ih (k + 1) (sm + (σ 19 k)) _ _ _ (by omega) (by omega) (by rw [hs]; rfl) hP hD hS (lv_sub hl [2, 1, 0] rfl)
  refine lv_iconst (v := 0) hx hb d_Md_highOf_0 (by decide) ?_
  refine lv_istore_n (lv' := [(1, .int 0), (0, .ref (a 0))]) hx hb d_Md_highOf_1 rfl hl (by decide) rfl (fun ls hl => ?_)
  refine lv_iconst (v := 0) hx hb d_Md_highOf_2 (by decide) ?_
  refine lv_istore_n (lv' := [(2, .int 0), (1, .int 0), (0, .ref (a 0))]) hx hb d_Md_highOf_3 rfl hl (by decide) rfl (fun ls hl => ?_)
  exact cut_4 (L + 1) 0 0 _ _ _ (by omega) (by omega) (by rfl) hP hD hS (lv_sub hl [2, 1, 0] rfl)
set_option maxHeartbeats 4000000 in
set_option maxRecDepth 100000 in
theorem c_Md_gramsOf (l : Launch) (D : va_G) (t : Nat → ClassId) (a : Nat → Nat) (σ : Nat → Nat → Int32) (set : Int32) (np : Nat) (hN : σ 8 0 = nI np) (hN8 : np ≤ 8) : gMi l D t y_Md_gramsOf b_Md_gramsOf 4 (some .int) 1 [.ref (a 0), .int set] (wMd t a σ) (wMd t a) (fun r u => r = mGrams σ set np ∧ u = σ) := by
  intro A
  refine Met.ofW (cc := b_Md_gramsOf) (maxL := 4) (ret := (some .int)) (by decide) rfl ?_
  intro p e s m args below meth c s₁ B hml hv
  obtain ⟨rfl, hK, hP, hD⟩ := hv
  have hx := B.exec
  have hb := B.bytes
  have hr := B.returns
  have hts := atoms_spec (ws := .code y_Md_gramsOf b_Md_gramsOf 4 (some .int) :: gBig) B.pre
  have hown : s.vm.findClass R_Md = some m.cls := findClass_of_methodNamed B.named
  have hlocks := B.notSynchronized
  have hS : va_S A s.heap s.heap [] := va_S.rf
  have hl := lv_entry ([.ref (a 0), .int set]) (n := 4) (Nat.le_of_ble_eq_true rfl)
  rw [lg_entry_eq]
  generalize (lg_sl ([.ref (a 0), .int set]) ++ List.replicate (4 - (lg_sl ([.ref (a 0), .int set])).length) Slot.unset).toArray = ls at hl ⊢
  have hl : lv_has ls 4 [(0, .ref (a 0)), (1, .int set)] := hl
  show gGo l p e s m below meth c D t A 1 [.ref (a 0), .int set] (wMd t a) (fun r u => r = mGrams σ set np ∧ u = σ) s.heap [] (F0 m 0 ls [])
  have cut_4 : ∀ (n : Nat) (k : Nat) (sm : Int32) (H : Heap) (locs : List Loc) (ls : Array Slot), k ≤ np → np + 1 ≤ k + n → sm = mGrams σ set k → va_P D gCl (wMd t a σ) H → va_D A (wMd t a σ) → va_S A s.heap H locs → lv_has ls 4 [(0, .ref (a 0)), (1, .int set), (2, .int sm), (3, .int (nI k))] → gGo l p e s m below meth c D t A 1 [.ref (a 0), .int set] (wMd t a) (fun r u => r = mGrams σ set np ∧ u = σ) H locs (F0 m 4 ls []) := by
    intro n
    induction n with
    | zero =>
      intro k sm H locs ls hk hf hs hP hD hS hl
      exact absurd hf (by omega)
    | succ n ih =>
      intro k sm H locs ls hk hf hs hP hD hS hl
      refine lv_iload_n hx hb d_Md_gramsOf_4 rfl (lv_at hl 3 rfl) ?_
      refine lv_aload_n hx hb d_Md_gramsOf_5 rfl (lv_at hl 0 rfl) ?_
      refine va_get (D := D) (ci := 7) (v := .int (σ 8 0)) (C := R_Md) (T := F_Md) (N := 34) hx hb hts (fun w h => List.mem_cons_of_mem _ (i_Md w h)) hown hK.1 hP 0 (wMd_0 t a σ) rfl 8 (by decide) (hts (.fieldLink R_Md 113 "FlatBoxesModel" "parts" "I") (List.mem_cons_of_mem _ (gIn k_674 (by decide +kernel)))) (fun _ h9 => h9) rfl d_Md_gramsOf_6 ?_
      refine lv_topi (fun v_1 e_1 => ?_)
      obtain rfl : v_1 = nI np := e_1.trans hN
      refine lv_icmp_ge (tgt := 40) hx hb d_Md_gramsOf_9 (by decide) (fun c_2 => ?_) (fun c_2 => ?_)
      · 
        have h_2 : np ≤ k := (nI_leI (a := np) (b := k) (by omega) (by omega)).mp c_2
        refine lv_iload_n hx hb d_Md_gramsOf_40 rfl (lv_at hl 2 rfl) ?_
        exact W.iret (v := sm) hx hb hr (fun U hU hW => ⟨⟨sm, σ, rfl, by exact ⟨by rw [hs]; congr 1; omega, rfl⟩, by rw [hU]; exact hP, hD⟩, hS.F hU⟩) hS.2.2 d_Md_gramsOf_41
      · 
        have h_2 : ¬ np ≤ k := fun q9 => c_2 ((nI_leI (a := np) (b := k) (by omega) (by omega)).mpr q9)
        refine lv_iload_n hx hb d_Md_gramsOf_12 rfl (lv_at hl 2 rfl) ?_
        refine lv_aload_n hx hb d_Md_gramsOf_13 rfl (lv_at hl 0 rfl) ?_
        refine lv_iload_n hx hb d_Md_gramsOf_14 rfl (lv_at hl 1 rfl) ?_
        refine lv_iload_n hx hb d_Md_gramsOf_15 rfl (lv_at hl 3 rfl) ?_
        refine g_vi (k := 2) (As := [.int set, .int (nI k)]) (rest := [.int sm]) (own := R_Md) (C := R_Md) (index := 123) ⟨hx, hb, hml, hown, hts⟩ (c_Md_has l D t a σ set (nI k)) (gg_Md_123 _) (by decide +kernel) ⟨Nat.le_of_ble_eq_true rfl, Nat.le_of_ble_eq_true rfl⟩ rfl (va_recv hK.1 hP (ci := 7) (q0 := 0) rfl (wMd_0 t a σ)) hK hP hD hS hl.1 rfl (Nat.le_of_ble_eq_true rfl) ⟨Nat.zero_le _, Nat.zero_le _⟩ d_Md_gramsOf_16 (fun r_3 u_3 H locs q_3 hP hD hS => ?_)
        obtain ⟨rfl, hu_3⟩ := q_3
        rw [hu_3] at hP hD
        refine lv_if_eq (tgt := 31) hx hb d_Md_gramsOf_19 (by decide) (fun c_4 => ?_) (fun c_4 => ?_)
        · 
          refine lv_iconst (v := 0) hx hb d_Md_gramsOf_31 (by decide) ?_
          refine lv_iadd hx hb d_Md_gramsOf_32 ?_
          refine lv_istore_n (lv' := [(2, .int (sm + 0)), (0, .ref (a 0)), (1, .int set), (3, .int (nI k))]) hx hb d_Md_gramsOf_33 rfl hl (by decide) rfl (fun ls hl => ?_)
          refine lv_iinc (v := nI (k + 1)) (lv' := [(3, .int (nI (k + 1))), (2, .int (sm + 0)), (0, .ref (a 0)), (1, .int set)]) hx hb d_Md_gramsOf_34 hl (k := 3) rfl (nI_1 k) (by decide) rfl (fun ls hl => ?_)
          refine lv_goto (tgt := 4) hx hb d_Md_gramsOf_37 (by decide) ?_
          exact ih (k + 1) (sm + 0) _ _ _ (by omega) (by omega) (by rw [hs]; simp [mGrams, c_2, c_4]) hP hD hS (lv_sub hl [2, 3, 1, 0] rfl)
        · 
          refine lv_aload_n hx hb d_Md_gramsOf_22 rfl (lv_at hl 0 rfl) ?_
          refine va_get (D := D) (ci := 7) (v := .ref (a 12)) (C := R_Md) (T := F_Md) (N := 34) hx hb hts (fun w h => List.mem_cons_of_mem _ (i_Md w h)) hown hK.1 hP 0 (wMd_0 t a σ) rfl 12 (by decide) (hts (.fieldLink R_Md 34 "FlatBoxesModel" "grams" "[I") (List.mem_cons_of_mem _ (gIn k_678 (by decide +kernel)))) (fun _ h9 => h9) rfl d_Md_gramsOf_23 ?_
          refine lv_iload_n hx hb d_Md_gramsOf_26 rfl (lv_at hl 3 rfl) ?_
          refine g_iald hx hb hK.1 hP 9 0 (wMd_12 t a σ) rfl k (rfl) (by omega) (by decide) d_Md_gramsOf_27 ?_
          refine lv_goto (tgt := 32) hx hb d_Md_gramsOf_28 (by decide) ?_
          refine lv_iadd hx hb d_Md_gramsOf_32 ?_
          refine lv_istore_n (lv' := [(2, .int (sm + (σ 12 k))), (0, .ref (a 0)), (1, .int set), (3, .int (nI k))]) hx hb d_Md_gramsOf_33 rfl hl (by decide) rfl (fun ls hl => ?_)
          refine lv_iinc (v := nI (k + 1)) (lv' := [(3, .int (nI (k + 1))), (2, .int (sm + (σ 12 k))), (0, .ref (a 0)), (1, .int set)]) hx hb d_Md_gramsOf_34 hl (k := 3) rfl (nI_1 k) (by decide) rfl (fun ls hl => ?_)
          refine lv_goto (tgt := 4) hx hb d_Md_gramsOf_37 (by decide) ?_
          exact ih (k + 1) (sm + (σ 12 k)) _ _ _ (by omega) (by omega) (by rw [hs]; simp [mGrams, c_2, c_4]) hP hD hS (lv_sub hl [2, 3, 1, 0] rfl)
  refine lv_iconst (v := 0) hx hb d_Md_gramsOf_0 (by decide) ?_
  refine lv_istore_n (lv' := [(2, .int 0), (0, .ref (a 0)), (1, .int set)]) hx hb d_Md_gramsOf_1 rfl hl (by decide) rfl (fun ls hl => ?_)
  refine lv_iconst (v := 0) hx hb d_Md_gramsOf_2 (by decide) ?_
  refine lv_istore_n (lv' := [(3, .int 0), (2, .int 0), (0, .ref (a 0)), (1, .int set)]) hx hb d_Md_gramsOf_3 rfl hl (by decide) rfl (fun ls hl => ?_)
  exact cut_4 (np + 1) 0 0 _ _ _ (by omega) (by omega) (by rfl) hP hD hS (lv_sub hl [2, 3, 1, 0] rfl)
