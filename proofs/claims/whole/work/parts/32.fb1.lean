def fPlc (v n : Int32) : Int32 := if v < 0 then 0 else if n ≤ v then 0 else 1
def fIn (set q : Int32) : Int32 := if (set >>> (q &&& 31)) &&& 1 = 0 then 0 else 1
def fSides (x y z : Int32) : Int32 := if mIn x 1 100 = 0 then 0 else if mIn y 1 100 = 0 then 0 else if mIn z 1 100 = 0 then 0 else 1
def fGrams (σ : Nat → Nat → Int32) (set : Int32) : Nat → Int32
  | 0 => 0
  | k + 1 => if fIn set (nI k) = 0 then fGrams σ set k else fGrams σ set k + σ 303 k
def fAW (σ : Nat → Nat → Int32) (set mw md : Int32) : Nat → Nat → Int32
  | 0, _ => 1
  | d + 1, k => if fIn set (nI k) = 0 then fAW σ set mw md d (k + 1) else if mw < σ 300 k then 0 else if σ 301 k ≤ md then fAW σ set mw md d (k + 1) else 0
def fCnt (f : Nat → Int32) : Nat → Int32
  | 0 => 0
  | k + 1 => if f k = 0 then fCnt f k else fCnt f k + 1
def fOpen (σ : Nat → Nat → Int32) (j : Nat) (th : Int32) : Nat → Nat → Int32 := gSt (gSt (gSt (gSt (gSt σ 202 j th) 203 j 0) 204 j 50) 205 j 0) 208 0 (nI (j + 1))
def fLay3 (τ : Nat → Nat → Int32) (q j : Nat) : Nat → Nat → Int32 := gSt τ 205 j (if ¬ τ 205 j = 0 then 1 else if τ 305 q = 0 then 0 else 1)
def fLay1 (τ : Nat → Nat → Int32) (q j : Nat) (x : Int32) : Nat → Nat → Int32 := gSt (gSt (gSt (gSt (gSt τ 206 q (nI j)) 207 q x) 201 j (x + τ 300 q)) 203 j (τ 203 j + τ 303 q)) 204 j (if τ 304 q < τ 204 j then τ 304 q else τ 204 j)
def fLay (σ : Nat → Nat → Int32) (q j L : Nat) : Nat → Nat → Int32 := if j = L then fLay3 (fLay1 (fOpen σ j (σ 302 q)) q j 0) q j else fLay3 (fLay1 σ q j (σ 201 j + σ 200 0)) q j
def fLn (τ : Nat → Nat → Int32) : Nat := (τ 208 0).toNatClampNeg
def fRm (τ : Nat → Nat → Int32) (q : Nat) (wide : Int32) (L : Nat) : Nat := mRoom (τ 201) (τ 200 0) (τ 300 q) wide L 0
def fNewL (τ : Nat → Nat → Int32) (q : Nat) (wide : Int32) (L : Nat) : Nat := if fRm τ q wide L = L then L + 1 else L
def fPk (σ : Nat → Nat → Int32) (bt : Nat → Nat) (set wide : Int32) : Nat → (Nat → Nat → Int32)
  | 0 => gSt σ 208 0 0
  | k + 1 => if fIn set (nI (bt k)) = 0 then fPk σ bt set wide k else fLay (fPk σ bt set wide k) (bt k) (fRm (fPk σ bt set wide k) (bt k) wide (fLn (fPk σ bt set wide k))) (fLn (fPk σ bt set wide k))
theorem fLay3_fix (τ : Nat → Nat → Int32) (q j : Nat) {i : Nat} (h : i ≠ 205) : fLay3 τ q j i = τ i := by unfold fLay3; rw [gSt_ne _ _ _ _ h]
theorem fLay1_fix (τ : Nat → Nat → Int32) (q j : Nat) (x : Int32) {i : Nat} (h : i ≤ 200 ∨ 207 < i) : fLay1 τ q j x i = τ i := by
  unfold fLay1
  repeat rw [gSt_ne _ _ _ _ (by omega)]
theorem fOpen_fix (τ : Nat → Nat → Int32) (j : Nat) (th : Int32) {i : Nat} (h : i ≤ 200 ∨ 208 < i) : fOpen τ j th i = τ i := by
  unfold fOpen
  repeat rw [gSt_ne _ _ _ _ (by omega)]
theorem fLay_fix (τ : Nat → Nat → Int32) (q j L : Nat) {i : Nat} (h : i ≤ 200 ∨ 208 < i) : fLay τ q j L i = τ i := by
  unfold fLay
  split
  · rw [fLay3_fix _ _ _ (by omega), fLay1_fix _ _ _ _ (by omega), fOpen_fix _ _ _ h]
  · rw [fLay3_fix _ _ _ (by omega), fLay1_fix _ _ _ _ (by omega)]
theorem fLay_L {τ : Nat → Nat → Int32} {q L : Nat} {wide : Int32} (h : τ 208 0 = nI L) : fLay τ q (fRm τ q wide L) L 208 0 = nI (fNewL τ q wide L) := by
  unfold fLay fNewL
  split
  · next e =>
    rw [fLay3_fix _ _ _ (by omega), fLay1_fix _ _ _ _ (by omega), e]
    rfl
  · rw [fLay3_fix _ _ _ (by omega), fLay1_fix _ _ _ _ (by omega), h]
theorem fNewL_le (τ : Nat → Nat → Int32) (q : Nat) (wide : Int32) (L : Nat) : fNewL τ q wide L ≤ L + 1 := by unfold fNewL; split <;> omega
theorem fRm_le (τ : Nat → Nat → Int32) (q : Nat) (wide : Int32) (L : Nat) : fRm τ q wide L ≤ L := by have := mRoom_le (τ 201) (τ 200 0) (τ 300 q) wide L 0; unfold fRm; omega

theorem gg_Fb_74 (w0 : Cond) : GoodIn (w0 :: gBig) (wsS R_Fb 74 y_Fb_isWithin (.code y_Fb_isWithin b_Fb_isWithin 3 (some .boolean) :: gBig)) := gGoodS (gIn k_395 (by decide +kernel)) (gIn k_396 (by decide +kernel)) (gIn k_1 (by decide +kernel)) (gIn k_397 (by decide +kernel))
theorem gg_Pk_92 (w0 : Cond) : GoodIn (w0 :: gBig) (wsV R_Pk 92 R_Pk y_Pk_open (.code y_Pk_open b_Pk_open 3 none :: gBig)) := gGoodV (gIn k_308 (by decide +kernel)) (gIn k_310 (by decide +kernel)) (gInP (List.mem_of_getElem? (i := 3) (by decide +kernel)) (by decide +kernel)) (gIn k_4 (by decide +kernel)) (gIn k_311 (by decide +kernel))
theorem gg_Pk_84 (w0 : Cond) : GoodIn (w0 :: gBig) (wsV R_Pk 84 R_Pk y_Pk_firstWithRoom (.code y_Pk_firstWithRoom b_Pk_firstWithRoom 4 (some .int) :: gBig)) := gGoodV (gIn k_300 (by decide +kernel)) (gIn k_302 (by decide +kernel)) (gInP (List.mem_of_getElem? (i := 1) (by decide +kernel)) (by decide +kernel)) (gIn k_4 (by decide +kernel)) (gIn k_303 (by decide +kernel))
theorem gg_Pk_88 (w0 : Cond) : GoodIn (w0 :: gBig) (wsV R_Pk 88 R_Pk y_Pk_lay (.code y_Pk_lay b_Pk_lay 5 none :: gBig)) := gGoodV (gIn k_304 (by decide +kernel)) (gIn k_306 (by decide +kernel)) (gInP (List.mem_of_getElem? (i := 2) (by decide +kernel)) (by decide +kernel)) (gIn k_4 (by decide +kernel)) (gIn k_307 (by decide +kernel))
set_option maxHeartbeats 4000000 in
set_option maxRecDepth 100000 in
theorem c_Fb_isWithin (l : Launch) (D : va_G) (t : Nat → ClassId) (a : Nat → Nat) (σ : Nat → Nat → Int32) (v lo hi : Int32) : gMi l D t y_Fb_isWithin b_Fb_isWithin 3 (some .boolean) 0 [.int v, .int lo, .int hi] (wFb t a σ) (wFb t a) (fun r u => r = mIn v lo hi ∧ u = σ) := by
  intro A
  refine Met.ofW (cc := b_Fb_isWithin) (maxL := 3) (ret := (some .boolean)) (by decide) rfl ?_
  intro p e s m args below meth c s₁ B hml hv
  obtain ⟨rfl, hK, hP, hD⟩ := hv
  have hx := B.exec
  have hb := B.bytes
  have hr := B.returns
  have hts := atoms_spec (ws := .code y_Fb_isWithin b_Fb_isWithin 3 (some .boolean) :: gBig) B.pre
  have hown : s.vm.findClass R_Fb = some m.cls := findClass_of_methodNamed B.named
  have hlocks := B.notSynchronized
  have hS : va_S A s.heap s.heap [] := va_S.rf
  have hl := lv_entry ([.int v, .int lo, .int hi]) (n := 3) (Nat.le_of_ble_eq_true rfl)
  rw [lg_entry_eq]
  generalize (lg_sl ([.int v, .int lo, .int hi]) ++ List.replicate (3 - (lg_sl ([.int v, .int lo, .int hi])).length) Slot.unset).toArray = ls at hl ⊢
  have hl : lv_has ls 3 [(0, .int v), (1, .int lo), (2, .int hi)] := hl
  show gGo l p e s m below meth c D t A 0 [.int v, .int lo, .int hi] (wFb t a) (fun r u => r = mIn v lo hi ∧ u = σ) s.heap [] (F0 m 0 ls [])
  refine lv_iload_n hx hb d_Fb_isWithin_0 rfl (lv_at hl 0 rfl) ?_
  refine lv_iload_n hx hb d_Fb_isWithin_1 rfl (lv_at hl 1 rfl) ?_
  refine lv_icmp_lt (tgt := 14) hx hb d_Fb_isWithin_2 (by decide) (fun c_1 => ?_) (fun c_1 => ?_)
  · 
    refine lv_iconst (v := 0) hx hb d_Fb_isWithin_14 (by decide) ?_
    exact W.zret (v := 0) (ty := .boolean) hx hb hr (rfl) (fun U hU hW => ⟨⟨0, σ, rfl, by exact ⟨by simp [mIn, c_1], rfl⟩, by rw [hU]; exact hP, hD⟩, hS.F hU⟩) hS.2.2 d_Fb_isWithin_15
  · 
    refine lv_iload_n hx hb d_Fb_isWithin_5 rfl (lv_at hl 0 rfl) ?_
    refine lv_iload_n hx hb d_Fb_isWithin_6 rfl (lv_at hl 2 rfl) ?_
    refine lv_icmp_gt (tgt := 14) hx hb d_Fb_isWithin_7 (by decide) (fun c_2 => ?_) (fun c_2 => ?_)
    · 
      refine lv_iconst (v := 0) hx hb d_Fb_isWithin_14 (by decide) ?_
      exact W.zret (v := 0) (ty := .boolean) hx hb hr (rfl) (fun U hU hW => ⟨⟨0, σ, rfl, by exact ⟨by simp [mIn, c_1, c_2], rfl⟩, by rw [hU]; exact hP, hD⟩, hS.F hU⟩) hS.2.2 d_Fb_isWithin_15
    · 
      refine lv_iconst (v := 1) hx hb d_Fb_isWithin_10 (by decide) ?_
      refine lv_goto (tgt := 15) hx hb d_Fb_isWithin_11 (by decide) ?_
      exact W.zret (v := 1) (ty := .boolean) hx hb hr (rfl) (fun U hU hW => ⟨⟨1, σ, rfl, by exact ⟨by simp [mIn, c_1, c_2], rfl⟩, by rw [hU]; exact hP, hD⟩, hS.F hU⟩) hS.2.2 d_Fb_isWithin_15
set_option maxHeartbeats 4000000 in
set_option maxRecDepth 100000 in
theorem c_Fb_isPlace (l : Launch) (D : va_G) (t : Nat → ClassId) (a : Nat → Nat) (σ : Nat → Nat → Int32) (v nn : Int32) : gMi l D t y_Fb_isPlace b_Fb_isPlace 2 (some .boolean) 0 [.int v, .int nn] (wFb t a σ) (wFb t a) (fun r u => r = fPlc v nn ∧ u = σ) := by
  intro A
  refine Met.ofW (cc := b_Fb_isPlace) (maxL := 2) (ret := (some .boolean)) (by decide) rfl ?_
  intro p e s m args below meth c s₁ B hml hv
  obtain ⟨rfl, hK, hP, hD⟩ := hv
  have hx := B.exec
  have hb := B.bytes
  have hr := B.returns
  have hts := atoms_spec (ws := .code y_Fb_isPlace b_Fb_isPlace 2 (some .boolean) :: gBig) B.pre
  have hown : s.vm.findClass R_Fb = some m.cls := findClass_of_methodNamed B.named
  have hlocks := B.notSynchronized
  have hS : va_S A s.heap s.heap [] := va_S.rf
  have hl := lv_entry ([.int v, .int nn]) (n := 2) (Nat.le_of_ble_eq_true rfl)
  rw [lg_entry_eq]
  generalize (lg_sl ([.int v, .int nn]) ++ List.replicate (2 - (lg_sl ([.int v, .int nn])).length) Slot.unset).toArray = ls at hl ⊢
  have hl : lv_has ls 2 [(0, .int v), (1, .int nn)] := hl
  show gGo l p e s m below meth c D t A 0 [.int v, .int nn] (wFb t a) (fun r u => r = fPlc v nn ∧ u = σ) s.heap [] (F0 m 0 ls [])
  refine lv_iload_n hx hb d_Fb_isPlace_0 rfl (lv_at hl 0 rfl) ?_
  refine lv_if_lt (tgt := 13) hx hb d_Fb_isPlace_1 (by decide) (fun c_1 => ?_) (fun c_1 => ?_)
  · 
    refine lv_iconst (v := 0) hx hb d_Fb_isPlace_13 (by decide) ?_
    exact W.zret (v := 0) (ty := .boolean) hx hb hr (rfl) (fun U hU hW => ⟨⟨0, σ, rfl, by exact ⟨by simp [fPlc, c_1], rfl⟩, by rw [hU]; exact hP, hD⟩, hS.F hU⟩) hS.2.2 d_Fb_isPlace_14
  · 
    refine lv_iload_n hx hb d_Fb_isPlace_4 rfl (lv_at hl 0 rfl) ?_
    refine lv_iload_n hx hb d_Fb_isPlace_5 rfl (lv_at hl 1 rfl) ?_
    refine lv_icmp_ge (tgt := 13) hx hb d_Fb_isPlace_6 (by decide) (fun c_2 => ?_) (fun c_2 => ?_)
    · 
      refine lv_iconst (v := 0) hx hb d_Fb_isPlace_13 (by decide) ?_
      exact W.zret (v := 0) (ty := .boolean) hx hb hr (rfl) (fun U hU hW => ⟨⟨0, σ, rfl, by exact ⟨by simp [fPlc, c_1, c_2], rfl⟩, by rw [hU]; exact hP, hD⟩, hS.F hU⟩) hS.2.2 d_Fb_isPlace_14
    · 
      refine lv_iconst (v := 1) hx hb d_Fb_isPlace_9 (by decide) ?_
      refine lv_goto (tgt := 14) hx hb d_Fb_isPlace_10 (by decide) ?_
      exact W.zret (v := 1) (ty := .boolean) hx hb hr (rfl) (fun U hU hW => ⟨⟨1, σ, rfl, by exact ⟨by simp [fPlc, c_1, c_2], rfl⟩, by rw [hU]; exact hP, hD⟩, hS.F hU⟩) hS.2.2 d_Fb_isPlace_14
set_option maxHeartbeats 4000000 in
set_option maxRecDepth 100000 in
theorem c_Fb_isIn (l : Launch) (D : va_G) (t : Nat → ClassId) (a : Nat → Nat) (σ : Nat → Nat → Int32) (set q : Int32) : gMi l D t y_Fb_isIn b_Fb_isIn 2 (some .boolean) 0 [.int set, .int q] (wFb t a σ) (wFb t a) (fun r u => r = fIn set q ∧ u = σ) := by
  intro A
  refine Met.ofW (cc := b_Fb_isIn) (maxL := 2) (ret := (some .boolean)) (by decide) rfl ?_
  intro p e s m args below meth c s₁ B hml hv
  obtain ⟨rfl, hK, hP, hD⟩ := hv
  have hx := B.exec
  have hb := B.bytes
  have hr := B.returns
  have hts := atoms_spec (ws := .code y_Fb_isIn b_Fb_isIn 2 (some .boolean) :: gBig) B.pre
  have hown : s.vm.findClass R_Fb = some m.cls := findClass_of_methodNamed B.named
  have hlocks := B.notSynchronized
  have hS : va_S A s.heap s.heap [] := va_S.rf
  have hl := lv_entry ([.int set, .int q]) (n := 2) (Nat.le_of_ble_eq_true rfl)
  rw [lg_entry_eq]
  generalize (lg_sl ([.int set, .int q]) ++ List.replicate (2 - (lg_sl ([.int set, .int q])).length) Slot.unset).toArray = ls at hl ⊢
  have hl : lv_has ls 2 [(0, .int set), (1, .int q)] := hl
  show gGo l p e s m below meth c D t A 0 [.int set, .int q] (wFb t a) (fun r u => r = fIn set q ∧ u = σ) s.heap [] (F0 m 0 ls [])
  refine lv_iload_n hx hb d_Fb_isIn_0 rfl (lv_at hl 0 rfl) ?_
  refine lv_iload_n hx hb d_Fb_isIn_1 rfl (lv_at hl 1 rfl) ?_
  refine lv_ishr hx hb d_Fb_isIn_2 ?_
  refine lv_iconst (v := 1) hx hb d_Fb_isIn_3 (by decide) ?_
  refine lv_iand hx hb d_Fb_isIn_4 ?_
  refine lv_if_eq (tgt := 12) hx hb d_Fb_isIn_5 (by decide) (fun c_1 => ?_) (fun c_1 => ?_)
  · 
    refine lv_iconst (v := 0) hx hb d_Fb_isIn_12 (by decide) ?_
    exact W.zret (v := 0) (ty := .boolean) hx hb hr (rfl) (fun U hU hW => ⟨⟨0, σ, rfl, by exact ⟨by simp [fIn, c_1], rfl⟩, by rw [hU]; exact hP, hD⟩, hS.F hU⟩) hS.2.2 d_Fb_isIn_13
  · 
    refine lv_iconst (v := 1) hx hb d_Fb_isIn_8 (by decide) ?_
    refine lv_goto (tgt := 13) hx hb d_Fb_isIn_9 (by decide) ?_
    exact W.zret (v := 1) (ty := .boolean) hx hb hr (rfl) (fun U hU hW => ⟨⟨1, σ, rfl, by exact ⟨by simp [fIn, c_1], rfl⟩, by rw [hU]; exact hP, hD⟩, hS.F hU⟩) hS.2.2 d_Fb_isIn_13
set_option maxHeartbeats 4000000 in
set_option maxRecDepth 100000 in
theorem c_Fb_areSides (l : Launch) (D : va_G) (t : Nat → ClassId) (a : Nat → Nat) (σ : Nat → Nat → Int32) (x y z : Int32) : gMi l D t y_Fb_areSides b_Fb_areSides 3 (some .boolean) 1 [.int x, .int y, .int z] (wFb t a σ) (wFb t a) (fun r u => r = fSides x y z ∧ u = σ) := by
  intro A
  refine Met.ofW (cc := b_Fb_areSides) (maxL := 3) (ret := (some .boolean)) (by decide) rfl ?_
  intro p e s m args below meth c s₁ B hml hv
  obtain ⟨rfl, hK, hP, hD⟩ := hv
  have hx := B.exec
  have hb := B.bytes
  have hr := B.returns
  have hts := atoms_spec (ws := .code y_Fb_areSides b_Fb_areSides 3 (some .boolean) :: gBig) B.pre
  have hown : s.vm.findClass R_Fb = some m.cls := findClass_of_methodNamed B.named
  have hlocks := B.notSynchronized
  have hS : va_S A s.heap s.heap [] := va_S.rf
  have hl := lv_entry ([.int x, .int y, .int z]) (n := 3) (Nat.le_of_ble_eq_true rfl)
  rw [lg_entry_eq]
  generalize (lg_sl ([.int x, .int y, .int z]) ++ List.replicate (3 - (lg_sl ([.int x, .int y, .int z])).length) Slot.unset).toArray = ls at hl ⊢
  have hl : lv_has ls 3 [(0, .int x), (1, .int y), (2, .int z)] := hl
  show gGo l p e s m below meth c D t A 1 [.int x, .int y, .int z] (wFb t a) (fun r u => r = fSides x y z ∧ u = σ) s.heap [] (F0 m 0 ls [])
  refine lv_iload_n hx hb d_Fb_areSides_0 rfl (lv_at hl 0 rfl) ?_
  refine lv_iconst (v := 1) hx hb d_Fb_areSides_1 (by decide) ?_
  refine lv_bipush (v := 100) hx hb d_Fb_areSides_2 (by decide) ?_
  refine g_si (k := 3) (As := [.int x, .int 1, .int 100]) (rest := []) (own := R_Fb) (index := 74) ⟨hx, hb, hml, hown, hts⟩ (c_Fb_isWithin l D t a σ x 1 100) (gg_Fb_74 _) (by decide +kernel) ⟨Nat.le_of_ble_eq_true rfl, Nat.le_of_ble_eq_true rfl⟩ rfl hK hP hD hS hl.1 rfl (Nat.le_of_ble_eq_true rfl) ⟨Nat.zero_le _, Nat.zero_le _⟩ d_Fb_areSides_4 (fun r_1 u_1 H locs q_1 hP hD hS => ?_)
  obtain ⟨rfl, hu_1⟩ := q_1
  rw [hu_1] at hP hD
  refine lv_if_eq (tgt := 34) hx hb d_Fb_areSides_7 (by decide) (fun c_2 => ?_) (fun c_2 => ?_)
  · 
    refine lv_iconst (v := 0) hx hb d_Fb_areSides_34 (by decide) ?_
    exact W.zret (v := 0) (ty := .boolean) hx hb hr (rfl) (fun U hU hW => ⟨⟨0, σ, rfl, by exact ⟨by simp [fSides, c_2], rfl⟩, by rw [hU]; exact hP, hD⟩, hS.F hU⟩) hS.2.2 d_Fb_areSides_35
  · 
    refine lv_iload_n hx hb d_Fb_areSides_10 rfl (lv_at hl 1 rfl) ?_
    refine lv_iconst (v := 1) hx hb d_Fb_areSides_11 (by decide) ?_
    refine lv_bipush (v := 100) hx hb d_Fb_areSides_12 (by decide) ?_
    refine g_si (k := 3) (As := [.int y, .int 1, .int 100]) (rest := []) (own := R_Fb) (index := 74) ⟨hx, hb, hml, hown, hts⟩ (c_Fb_isWithin l D t a σ y 1 100) (gg_Fb_74 _) (by decide +kernel) ⟨Nat.le_of_ble_eq_true rfl, Nat.le_of_ble_eq_true rfl⟩ rfl hK hP hD hS hl.1 rfl (Nat.le_of_ble_eq_true rfl) ⟨Nat.zero_le _, Nat.zero_le _⟩ d_Fb_areSides_14 (fun r_3 u_3 H locs q_3 hP hD hS => ?_)
    obtain ⟨rfl, hu_3⟩ := q_3
    rw [hu_3] at hP hD
    refine lv_if_eq (tgt := 34) hx hb d_Fb_areSides_17 (by decide) (fun c_4 => ?_) (fun c_4 => ?_)
    · 
      refine lv_iconst (v := 0) hx hb d_Fb_areSides_34 (by decide) ?_
      exact W.zret (v := 0) (ty := .boolean) hx hb hr (rfl) (fun U hU hW => ⟨⟨0, σ, rfl, by exact ⟨by simp [fSides, c_2, c_4], rfl⟩, by rw [hU]; exact hP, hD⟩, hS.F hU⟩) hS.2.2 d_Fb_areSides_35
    · 
      refine lv_iload_n hx hb d_Fb_areSides_20 rfl (lv_at hl 2 rfl) ?_
      refine lv_iconst (v := 1) hx hb d_Fb_areSides_21 (by decide) ?_
      refine lv_bipush (v := 100) hx hb d_Fb_areSides_22 (by decide) ?_
      refine g_si (k := 3) (As := [.int z, .int 1, .int 100]) (rest := []) (own := R_Fb) (index := 74) ⟨hx, hb, hml, hown, hts⟩ (c_Fb_isWithin l D t a σ z 1 100) (gg_Fb_74 _) (by decide +kernel) ⟨Nat.le_of_ble_eq_true rfl, Nat.le_of_ble_eq_true rfl⟩ rfl hK hP hD hS hl.1 rfl (Nat.le_of_ble_eq_true rfl) ⟨Nat.zero_le _, Nat.zero_le _⟩ d_Fb_areSides_24 (fun r_5 u_5 H locs q_5 hP hD hS => ?_)
      obtain ⟨rfl, hu_5⟩ := q_5
      rw [hu_5] at hP hD
      refine lv_if_eq (tgt := 34) hx hb d_Fb_areSides_27 (by decide) (fun c_6 => ?_) (fun c_6 => ?_)
      · 
        refine lv_iconst (v := 0) hx hb d_Fb_areSides_34 (by decide) ?_
        exact W.zret (v := 0) (ty := .boolean) hx hb hr (rfl) (fun U hU hW => ⟨⟨0, σ, rfl, by exact ⟨by simp [fSides, c_2, c_4, c_6], rfl⟩, by rw [hU]; exact hP, hD⟩, hS.F hU⟩) hS.2.2 d_Fb_areSides_35
      · 
        refine lv_iconst (v := 1) hx hb d_Fb_areSides_30 (by decide) ?_
        refine lv_goto (tgt := 35) hx hb d_Fb_areSides_31 (by decide) ?_
        exact W.zret (v := 1) (ty := .boolean) hx hb hr (rfl) (fun U hU hW => ⟨⟨1, σ, rfl, by exact ⟨by simp [fSides, c_2, c_4, c_6], rfl⟩, by rw [hU]; exact hP, hD⟩, hS.F hU⟩) hS.2.2 d_Fb_areSides_35
set_option maxHeartbeats 4000000 in
set_option maxRecDepth 100000 in
theorem c_Pt_everyPart (l : Launch) (D : va_G) (t : Nat → ClassId) (a : Nat → Nat) (σ : Nat → Nat → Int32) (np : Nat) (hN : σ 308 0 = nI np) (hN8 : np ≤ 8) : gMi l D t y_Pt_everyPart b_Pt_everyPart 1 (some .int) 0 [.ref (a 399)] (wFb t a σ) (wFb t a) (fun r u => r = ((1 : Int32) <<< (nI np &&& 31)) - 1 ∧ u = σ) := by
  intro A
  refine Met.ofW (cc := b_Pt_everyPart) (maxL := 1) (ret := (some .int)) (by decide) rfl ?_
  intro p e s m args below meth c s₁ B hml hv
  obtain ⟨rfl, hK, hP, hD⟩ := hv
  have hx := B.exec
  have hb := B.bytes
  have hr := B.returns
  have hts := atoms_spec (ws := .code y_Pt_everyPart b_Pt_everyPart 1 (some .int) :: gBig) B.pre
  have hown : s.vm.findClass R_Pt = some m.cls := findClass_of_methodNamed B.named
  have hlocks := B.notSynchronized
  have hS : va_S A s.heap s.heap [] := va_S.rf
  have hl := lv_entry ([.ref (a 399)]) (n := 1) (Nat.le_of_ble_eq_true rfl)
  rw [lg_entry_eq]
  generalize (lg_sl ([.ref (a 399)]) ++ List.replicate (1 - (lg_sl ([.ref (a 399)])).length) Slot.unset).toArray = ls at hl ⊢
  have hl : lv_has ls 1 [(0, .ref (a 399))] := hl
  show gGo l p e s m below meth c D t A 0 [.ref (a 399)] (wFb t a) (fun r u => r = ((1 : Int32) <<< (nI np &&& 31)) - 1 ∧ u = σ) s.heap [] (F0 m 0 ls [])
  refine lv_iconst (v := 1) hx hb d_Pt_everyPart_0 (by decide) ?_
  refine lv_aload_n hx hb d_Pt_everyPart_1 rfl (lv_at hl 0 rfl) ?_
  refine va_get (D := D) (ci := 3) (v := .int (σ 308 0)) (C := R_Pt) (T := F_Pt) (N := 9) hx hb hts (fun w h => List.mem_cons_of_mem _ (i_Pt w h)) hown hK.1 hP 2 (wFb_o3 t a σ) rfl 8 (by decide) (hts (.fieldLink R_Pt 37 "FlatBoxes$Parts" "count" "I") (List.mem_cons_of_mem _ (gIn k_85 (by decide +kernel)))) (fun _ h9 => h9) rfl d_Pt_everyPart_2 ?_
  refine lv_topi (fun v_1 e_1 => ?_)
  obtain rfl : nI np = v_1 := (e_1.trans hN).symm
  refine lv_ishl hx hb d_Pt_everyPart_5 ?_
  refine lv_iconst (v := 1) hx hb d_Pt_everyPart_6 (by decide) ?_
  refine lv_isub hx hb d_Pt_everyPart_7 ?_
  exact W.iret (v := (1 <<< ((nI np) &&& 31)) - 1) hx hb hr (fun U hU hW => ⟨⟨(1 <<< ((nI np) &&& 31)) - 1, σ, rfl, by exact ⟨rfl, rfl⟩, by rw [hU]; exact hP, hD⟩, hS.F hU⟩) hS.2.2 d_Pt_everyPart_8
set_option maxHeartbeats 4000000 in
set_option maxRecDepth 100000 in
theorem c_Pt_gramsOf (l : Launch) (D : va_G) (t : Nat → ClassId) (a : Nat → Nat) (σ : Nat → Nat → Int32) (set : Int32) (np : Nat) (hN : σ 308 0 = nI np) (hN8 : np ≤ 8) : gMi l D t y_Pt_gramsOf b_Pt_gramsOf 4 (some .int) 1 [.ref (a 399), .int set] (wFb t a σ) (wFb t a) (fun r u => r = fGrams σ set np ∧ u = σ) := by
  intro A
  refine Met.ofW (cc := b_Pt_gramsOf) (maxL := 4) (ret := (some .int)) (by decide) rfl ?_
  intro p e s m args below meth c s₁ B hml hv
  obtain ⟨rfl, hK, hP, hD⟩ := hv
  have hx := B.exec
  have hb := B.bytes
  have hr := B.returns
  have hts := atoms_spec (ws := .code y_Pt_gramsOf b_Pt_gramsOf 4 (some .int) :: gBig) B.pre
  have hown : s.vm.findClass R_Pt = some m.cls := findClass_of_methodNamed B.named
  have hlocks := B.notSynchronized
  have hS : va_S A s.heap s.heap [] := va_S.rf
  have hl := lv_entry ([.ref (a 399), .int set]) (n := 4) (Nat.le_of_ble_eq_true rfl)
  rw [lg_entry_eq]
  generalize (lg_sl ([.ref (a 399), .int set]) ++ List.replicate (4 - (lg_sl ([.ref (a 399), .int set])).length) Slot.unset).toArray = ls at hl ⊢
  have hl : lv_has ls 4 [(0, .ref (a 399)), (1, .int set)] := hl
  show gGo l p e s m below meth c D t A 1 [.ref (a 399), .int set] (wFb t a) (fun r u => r = fGrams σ set np ∧ u = σ) s.heap [] (F0 m 0 ls [])
  have cut_4 : ∀ (n : Nat) (k : Nat) (sm : Int32) (H : Heap) (locs : List Loc) (ls : Array Slot), (k ≤ np) → (np + 1 ≤ k + n) → (sm = fGrams σ set k) → va_P D gCl (wFb t a σ) H → va_D A (wFb t a σ) → va_S A s.heap H locs → lv_has ls 4 [(0, .ref (a 399)), (1, .int set), (2, .int sm), (3, .int (nI k))] → gGo l p e s m below meth c D t A 1 [.ref (a 399), .int set] (wFb t a) (fun r u => r = fGrams σ set np ∧ u = σ) H locs (F0 m 4 ls []) := by
    intro n
    induction n with
    | zero =>
      intro k sm H locs ls hk hf hs hP hD hS hl
      exact absurd hf (by omega)
    | succ n ih =>
      intro k sm H locs ls hk hf hs hP hD hS hl
      refine lv_iload_n hx hb d_Pt_gramsOf_4 rfl (lv_at hl 3 rfl) ?_
      refine lv_aload_n hx hb d_Pt_gramsOf_5 rfl (lv_at hl 0 rfl) ?_
      refine va_get (D := D) (ci := 3) (v := .int (σ 308 0)) (C := R_Pt) (T := F_Pt) (N := 9) hx hb hts (fun w h => List.mem_cons_of_mem _ (i_Pt w h)) hown hK.1 hP 2 (wFb_o3 t a σ) rfl 8 (by decide) (hts (.fieldLink R_Pt 37 "FlatBoxes$Parts" "count" "I") (List.mem_cons_of_mem _ (gIn k_85 (by decide +kernel)))) (fun _ h9 => h9) rfl d_Pt_gramsOf_6 ?_
      refine lv_topi (fun v_1 e_1 => ?_)
      obtain rfl : nI np = v_1 := (e_1.trans hN).symm
      refine lv_icmp_ge (tgt := 35) hx hb d_Pt_gramsOf_9 (by decide) (fun c_2 => ?_) (fun c_2 => ?_)
      · 
        have h_2 : np ≤ k := (nI_leI (a := np) (b := k) (by omega) (by omega)).mp c_2
        refine lv_iload_n hx hb d_Pt_gramsOf_35 rfl (lv_at hl 2 rfl) ?_
        exact W.iret (v := sm) hx hb hr (fun U hU hW => ⟨⟨sm, σ, rfl, by exact ⟨by rw [hs]; congr 1; omega, rfl⟩, by rw [hU]; exact hP, hD⟩, hS.F hU⟩) hS.2.2 d_Pt_gramsOf_36
      · 
        have h_2 : ¬ np ≤ k := fun q9 => c_2 ((nI_leI (a := np) (b := k) (by omega) (by omega)).mpr q9)
        refine lv_iload_n hx hb d_Pt_gramsOf_12 rfl (lv_at hl 1 rfl) ?_
        refine lv_iload_n hx hb d_Pt_gramsOf_13 rfl (lv_at hl 3 rfl) ?_
        refine g_sn (k := 2) (As := [.int set, .int (nI k)]) (rest := []) (own := R_Pt) (index := 48) (host := "FlatBoxes") ⟨hx, hb, hml, hown, hts⟩ (c_Fb_isIn l D t a σ set (nI k)) (by decide +kernel) (gIn k_289 (by decide +kernel)) (gIn k_1 (by decide +kernel)) (gIn k_290 (by decide +kernel)) (by decide +kernel) ⟨Nat.le_of_ble_eq_true rfl, Nat.le_of_ble_eq_true rfl⟩ rfl hK hP hD hS hl.1 rfl (Nat.le_of_ble_eq_true rfl) ⟨Nat.zero_le _, Nat.zero_le _⟩ d_Pt_gramsOf_14 (fun r_3 u_3 H locs q_3 hP hD hS => ?_)
        obtain ⟨rfl, hu_3⟩ := q_3
        rw [hu_3] at hP hD
        refine lv_if_eq (tgt := 29) hx hb d_Pt_gramsOf_17 (by decide) (fun c_4 => ?_) (fun c_4 => ?_)
        · 
          refine lv_iinc (v := nI (k + 1)) (lv' := [(3, .int (nI (k + 1))), (0, .ref (a 399)), (1, .int set), (2, .int sm)]) hx hb d_Pt_gramsOf_29 hl (k := 3) rfl (nI_1 k) (by decide) rfl (fun ls hl => ?_)
          refine lv_goto (tgt := 4) hx hb d_Pt_gramsOf_32 (by decide) ?_
          exact ih (k + 1) sm _ _ _ (by omega) (by omega) (by rw [hs]; simp [fGrams, c_2, h_2, c_4]) hP hD hS (lv_sub hl [1, 2, 3, 0] rfl)
        · 
          refine lv_iload_n hx hb d_Pt_gramsOf_20 rfl (lv_at hl 2 rfl) ?_
          refine lv_aload_n hx hb d_Pt_gramsOf_21 rfl (lv_at hl 0 rfl) ?_
          refine va_get (D := D) (ci := 3) (v := .ref (a 303)) (C := R_Pt) (T := F_Pt) (N := 9) hx hb hts (fun w h => List.mem_cons_of_mem _ (i_Pt w h)) hown hK.1 hP 2 (wFb_o3 t a σ) rfl 3 (by decide) (hts (.fieldLink R_Pt 21 "FlatBoxes$Parts" "grams" "[I") (List.mem_cons_of_mem _ (gIn k_74 (by decide +kernel)))) (fun _ h9 => h9) rfl d_Pt_gramsOf_22 ?_
          refine lv_iload_n hx hb d_Pt_gramsOf_25 rfl (lv_at hl 3 rfl) ?_
          refine g_iald hx hb hK.1 hP 15 0 (wFb_303 t a σ) rfl k (rfl) (by omega) (by decide) d_Pt_gramsOf_26 ?_
          refine lv_iadd hx hb d_Pt_gramsOf_27 ?_
          refine lv_istore_n (lv' := [(2, .int (sm + (σ 303 k))), (0, .ref (a 399)), (1, .int set), (3, .int (nI k))]) hx hb d_Pt_gramsOf_28 rfl hl (by decide) rfl (fun ls hl => ?_)
          refine lv_iinc (v := nI (k + 1)) (lv' := [(3, .int (nI (k + 1))), (2, .int (sm + (σ 303 k))), (0, .ref (a 399)), (1, .int set)]) hx hb d_Pt_gramsOf_29 hl (k := 3) rfl (nI_1 k) (by decide) rfl (fun ls hl => ?_)
          refine lv_goto (tgt := 4) hx hb d_Pt_gramsOf_32 (by decide) ?_
          exact ih (k + 1) (sm + (σ 303 k)) _ _ _ (by omega) (by omega) (by rw [hs]; simp [fGrams, c_2, h_2, c_4]) hP hD hS (lv_sub hl [2, 3, 1, 0] rfl)
  refine lv_iconst (v := 0) hx hb d_Pt_gramsOf_0 (by decide) ?_
  refine lv_istore_n (lv' := [(2, .int 0), (0, .ref (a 399)), (1, .int set)]) hx hb d_Pt_gramsOf_1 rfl hl (by decide) rfl (fun ls hl => ?_)
  refine lv_iconst (v := 0) hx hb d_Pt_gramsOf_2 (by decide) ?_
  refine lv_istore_n (lv' := [(3, .int 0), (2, .int 0), (0, .ref (a 399)), (1, .int set)]) hx hb d_Pt_gramsOf_3 rfl hl (by decide) rfl (fun ls hl => ?_)
  exact cut_4 (np + 1) 0 0 _ _ _ (by omega) (by omega) (by rfl) hP hD hS (lv_sub hl [2, 3, 1, 0] rfl)
set_option maxHeartbeats 4000000 in
set_option maxRecDepth 100000 in
theorem c_Pt_areWithin (l : Launch) (D : va_G) (t : Nat → ClassId) (a : Nat → Nat) (σ : Nat → Nat → Int32) (set mw md : Int32) (np : Nat) (hN : σ 308 0 = nI np) (hN8 : np ≤ 8) : gMi l D t y_Pt_areWithin b_Pt_areWithin 5 (some .boolean) 1 [.ref (a 399), .int set, .int mw, .int md] (wFb t a σ) (wFb t a) (fun r u => r = fAW σ set mw md np 0 ∧ u = σ) := by
  intro A
  refine Met.ofW (cc := b_Pt_areWithin) (maxL := 5) (ret := (some .boolean)) (by decide) rfl ?_
  intro p e s m args below meth c s₁ B hml hv
  obtain ⟨rfl, hK, hP, hD⟩ := hv
  have hx := B.exec
  have hb := B.bytes
  have hr := B.returns
  have hts := atoms_spec (ws := .code y_Pt_areWithin b_Pt_areWithin 5 (some .boolean) :: gBig) B.pre
  have hown : s.vm.findClass R_Pt = some m.cls := findClass_of_methodNamed B.named
  have hlocks := B.notSynchronized
  have hS : va_S A s.heap s.heap [] := va_S.rf
  have hl := lv_entry ([.ref (a 399), .int set, .int mw, .int md]) (n := 5) (Nat.le_of_ble_eq_true rfl)
  rw [lg_entry_eq]
  generalize (lg_sl ([.ref (a 399), .int set, .int mw, .int md]) ++ List.replicate (5 - (lg_sl ([.ref (a 399), .int set, .int mw, .int md])).length) Slot.unset).toArray = ls at hl ⊢
  have hl : lv_has ls 5 [(0, .ref (a 399)), (1, .int set), (2, .int mw), (3, .int md)] := hl
  show gGo l p e s m below meth c D t A 1 [.ref (a 399), .int set, .int mw, .int md] (wFb t a) (fun r u => r = fAW σ set mw md np 0 ∧ u = σ) s.heap [] (F0 m 0 ls [])
  have cut_3 : ∀ (n : Nat) (d : Nat) (k : Nat) (H : Heap) (locs : List Loc) (ls : Array Slot), (k + d = np) → (d + 1 ≤ n) → (fAW σ set mw md np 0 = fAW σ set mw md d k) → va_P D gCl (wFb t a σ) H → va_D A (wFb t a σ) → va_S A s.heap H locs → lv_has ls 5 [(0, .ref (a 399)), (1, .int set), (2, .int mw), (3, .int md), (4, .int (nI k))] → gGo l p e s m below meth c D t A 1 [.ref (a 399), .int set, .int mw, .int md] (wFb t a) (fun r u => r = fAW σ set mw md np 0 ∧ u = σ) H locs (F0 m 3 ls []) := by
    intro n
    induction n with
    | zero =>
      intro d k H locs ls hd hf hs hP hD hS hl
      exact absurd hf (by omega)
    | succ n ih =>
      intro d k H locs ls hd hf hs hP hD hS hl
      refine lv_iload hx hb d_Pt_areWithin_3 (lv_at hl 4 rfl) ?_
      refine lv_aload_n hx hb d_Pt_areWithin_5 rfl (lv_at hl 0 rfl) ?_
      refine va_get (D := D) (ci := 3) (v := .int (σ 308 0)) (C := R_Pt) (T := F_Pt) (N := 9) hx hb hts (fun w h => List.mem_cons_of_mem _ (i_Pt w h)) hown hK.1 hP 2 (wFb_o3 t a σ) rfl 8 (by decide) (hts (.fieldLink R_Pt 37 "FlatBoxes$Parts" "count" "I") (List.mem_cons_of_mem _ (gIn k_85 (by decide +kernel)))) (fun _ h9 => h9) rfl d_Pt_areWithin_6 ?_
      refine lv_topi (fun v_1 e_1 => ?_)
      obtain rfl : nI np = v_1 := (e_1.trans hN).symm
      refine lv_icmp_ge (tgt := 51) hx hb d_Pt_areWithin_9 (by decide) (fun c_2 => ?_) (fun c_2 => ?_)
      · 
        have h_2 : np ≤ k := (nI_leI (a := np) (b := k) (by omega) (by omega)).mp c_2
        refine lv_iconst (v := 1) hx hb d_Pt_areWithin_51 (by decide) ?_
        exact W.zret (v := 1) (ty := .boolean) hx hb hr (rfl) (fun U hU hW => ⟨⟨1, σ, rfl, by exact ⟨by rw [hs]; obtain rfl : d = 0 := (by omega); rfl, rfl⟩, by rw [hU]; exact hP, hD⟩, hS.F hU⟩) hS.2.2 d_Pt_areWithin_52
      · 
        have h_2 : ¬ np ≤ k := fun q9 => c_2 ((nI_leI (a := np) (b := k) (by omega) (by omega)).mpr q9)
        obtain ⟨d, rfl⟩ : ∃ d9, d = d9 + 1 := ⟨d - 1, by omega⟩
        refine lv_iload_n hx hb d_Pt_areWithin_12 rfl (lv_at hl 1 rfl) ?_
        refine lv_iload hx hb d_Pt_areWithin_13 (lv_at hl 4 rfl) ?_
        refine g_sn (k := 2) (As := [.int set, .int (nI k)]) (rest := []) (own := R_Pt) (index := 48) (host := "FlatBoxes") ⟨hx, hb, hml, hown, hts⟩ (c_Fb_isIn l D t a σ set (nI k)) (by decide +kernel) (gIn k_289 (by decide +kernel)) (gIn k_1 (by decide +kernel)) (gIn k_290 (by decide +kernel)) (by decide +kernel) ⟨Nat.le_of_ble_eq_true rfl, Nat.le_of_ble_eq_true rfl⟩ rfl hK hP hD hS hl.1 rfl (Nat.le_of_ble_eq_true rfl) ⟨Nat.zero_le _, Nat.zero_le _⟩ d_Pt_areWithin_15 (fun r_3 u_3 H locs q_3 hP hD hS => ?_)
        obtain ⟨rfl, hu_3⟩ := q_3
        rw [hu_3] at hP hD
        refine lv_if_eq (tgt := 45) hx hb d_Pt_areWithin_18 (by decide) (fun c_4 => ?_) (fun c_4 => ?_)
        · 
          refine lv_iinc (v := nI (k + 1)) (lv' := [(4, .int (nI (k + 1))), (0, .ref (a 399)), (1, .int set), (2, .int mw), (3, .int md)]) hx hb d_Pt_areWithin_45 hl (k := 4) rfl (nI_1 k) (by decide) rfl (fun ls hl => ?_)
          refine lv_goto (tgt := 3) hx hb d_Pt_areWithin_48 (by decide) ?_
          exact ih d (k + 1) _ _ _ (by omega) (by omega) (by rw [hs]; simp [fAW, c_2, h_2, c_4]) hP hD hS (lv_sub hl [1, 2, 3, 4, 0] rfl)
        · 
          refine lv_aload_n hx hb d_Pt_areWithin_21 rfl (lv_at hl 0 rfl) ?_
          refine va_get (D := D) (ci := 3) (v := .ref (a 300)) (C := R_Pt) (T := F_Pt) (N := 9) hx hb hts (fun w h => List.mem_cons_of_mem _ (i_Pt w h)) hown hK.1 hP 2 (wFb_o3 t a σ) rfl 0 (by decide) (hts (.fieldLink R_Pt 9 "FlatBoxes$Parts" "width" "[I") (List.mem_cons_of_mem _ (gIn k_69 (by decide +kernel)))) (fun _ h9 => h9) rfl d_Pt_areWithin_22 ?_
          refine lv_iload hx hb d_Pt_areWithin_25 (lv_at hl 4 rfl) ?_
          refine g_iald hx hb hK.1 hP 12 0 (wFb_300 t a σ) rfl k (rfl) (by omega) (by decide) d_Pt_areWithin_27 ?_
          refine lv_iload_n hx hb d_Pt_areWithin_28 rfl (lv_at hl 2 rfl) ?_
          refine lv_icmp_gt (tgt := 43) hx hb d_Pt_areWithin_29 (by decide) (fun c_5 => ?_) (fun c_5 => ?_)
          · 
            refine lv_iconst (v := 0) hx hb d_Pt_areWithin_43 (by decide) ?_
            exact W.zret (v := 0) (ty := .boolean) hx hb hr (rfl) (fun U hU hW => ⟨⟨0, σ, rfl, by exact ⟨by rw [hs]; simp [fAW, c_2, h_2, c_4, c_5], rfl⟩, by rw [hU]; exact hP, hD⟩, hS.F hU⟩) hS.2.2 d_Pt_areWithin_44
          · 
            refine lv_aload_n hx hb d_Pt_areWithin_32 rfl (lv_at hl 0 rfl) ?_
            refine va_get (D := D) (ci := 3) (v := .ref (a 301)) (C := R_Pt) (T := F_Pt) (N := 9) hx hb hts (fun w h => List.mem_cons_of_mem _ (i_Pt w h)) hown hK.1 hP 2 (wFb_o3 t a σ) rfl 1 (by decide) (hts (.fieldLink R_Pt 15 "FlatBoxes$Parts" "depth" "[I") (List.mem_cons_of_mem _ (gIn k_71 (by decide +kernel)))) (fun _ h9 => h9) rfl d_Pt_areWithin_33 ?_
            refine lv_iload hx hb d_Pt_areWithin_36 (lv_at hl 4 rfl) ?_
            refine g_iald hx hb hK.1 hP 13 0 (wFb_301 t a σ) rfl k (rfl) (by omega) (by decide) d_Pt_areWithin_38 ?_
            refine lv_iload_n hx hb d_Pt_areWithin_39 rfl (lv_at hl 3 rfl) ?_
            refine lv_icmp_le (tgt := 45) hx hb d_Pt_areWithin_40 (by decide) (fun c_6 => ?_) (fun c_6 => ?_)
            · 
              refine lv_iinc (v := nI (k + 1)) (lv' := [(4, .int (nI (k + 1))), (0, .ref (a 399)), (1, .int set), (2, .int mw), (3, .int md)]) hx hb d_Pt_areWithin_45 hl (k := 4) rfl (nI_1 k) (by decide) rfl (fun ls hl => ?_)
              refine lv_goto (tgt := 3) hx hb d_Pt_areWithin_48 (by decide) ?_
              exact ih d (k + 1) _ _ _ (by omega) (by omega) (by rw [hs]; simp [fAW, c_2, h_2, c_4, c_5, c_6]) hP hD hS (lv_sub hl [1, 2, 3, 4, 0] rfl)
            · 
              refine lv_iconst (v := 0) hx hb d_Pt_areWithin_43 (by decide) ?_
              exact W.zret (v := 0) (ty := .boolean) hx hb hr (rfl) (fun U hU hW => ⟨⟨0, σ, rfl, by exact ⟨by rw [hs]; simp [fAW, c_2, h_2, c_4, c_5, c_6], rfl⟩, by rw [hU]; exact hP, hD⟩, hS.F hU⟩) hS.2.2 d_Pt_areWithin_44
  refine lv_iconst (v := 0) hx hb d_Pt_areWithin_0 (by decide) ?_
  refine lv_istore (lv' := [(4, .int 0), (0, .ref (a 399)), (1, .int set), (2, .int mw), (3, .int md)]) hx hb d_Pt_areWithin_1 hl (by decide) rfl (fun ls hl => ?_)
  exact cut_3 (np + 1) np 0 _ _ _ (by omega) (by omega) (rfl) hP hD hS (lv_sub hl [1, 2, 3, 4, 0] rfl)
set_option maxHeartbeats 4000000 in
set_option maxRecDepth 100000 in
theorem c_Pk_height (l : Launch) (D : va_G) (t : Nat → ClassId) (a : Nat → Nat) (σ : Nat → Nat → Int32) (L : Nat) (hL : σ 208 0 = nI L) (hL8 : L ≤ 8) : gMi l D t y_Pk_height b_Pk_height 3 (some .int) 0 [.ref (a 299)] (wFb t a σ) (wFb t a) (fun r u => r = mSum (σ 202) L ∧ u = σ) := by
  intro A
  refine Met.ofW (cc := b_Pk_height) (maxL := 3) (ret := (some .int)) (by decide) rfl ?_
  intro p e s m args below meth c s₁ B hml hv
  obtain ⟨rfl, hK, hP, hD⟩ := hv
  have hx := B.exec
  have hb := B.bytes
  have hr := B.returns
  have hts := atoms_spec (ws := .code y_Pk_height b_Pk_height 3 (some .int) :: gBig) B.pre
  have hown : s.vm.findClass R_Pk = some m.cls := findClass_of_methodNamed B.named
  have hlocks := B.notSynchronized
  have hS : va_S A s.heap s.heap [] := va_S.rf
  have hl := lv_entry ([.ref (a 299)]) (n := 3) (Nat.le_of_ble_eq_true rfl)
  rw [lg_entry_eq]
  generalize (lg_sl ([.ref (a 299)]) ++ List.replicate (3 - (lg_sl ([.ref (a 299)])).length) Slot.unset).toArray = ls at hl ⊢
  have hl : lv_has ls 3 [(0, .ref (a 299))] := hl
  show gGo l p e s m below meth c D t A 0 [.ref (a 299)] (wFb t a) (fun r u => r = mSum (σ 202) L ∧ u = σ) s.heap [] (F0 m 0 ls [])
  have cut_4 : ∀ (n : Nat) (k : Nat) (sm : Int32) (H : Heap) (locs : List Loc) (ls : Array Slot), (k ≤ L) → (L + 1 ≤ k + n) → (sm = mSum (σ 202) k) → va_P D gCl (wFb t a σ) H → va_D A (wFb t a σ) → va_S A s.heap H locs → lv_has ls 3 [(0, .ref (a 299)), (1, .int sm), (2, .int (nI k))] → gGo l p e s m below meth c D t A 0 [.ref (a 299)] (wFb t a) (fun r u => r = mSum (σ 202) L ∧ u = σ) H locs (F0 m 4 ls []) := by
    intro n
    induction n with
    | zero =>
      intro k sm H locs ls hk hf hs hP hD hS hl
      exact absurd hf (by omega)
    | succ n ih =>
      intro k sm H locs ls hk hf hs hP hD hS hl
      refine lv_iload_n hx hb d_Pk_height_4 rfl (lv_at hl 2 rfl) ?_
      refine lv_aload_n hx hb d_Pk_height_5 rfl (lv_at hl 0 rfl) ?_
      refine va_get (D := D) (ci := 2) (v := .int (σ 208 0)) (C := R_Pk) (T := F_Pk) (N := 9) hx hb hts (fun w h => List.mem_cons_of_mem _ (i_Pk w h)) hown hK.1 hP 3 (wFb_o2 t a σ) rfl 8 (by decide) (hts (.fieldLink R_Pk 70 "FlatBoxes$Packing" "layers" "I") (List.mem_cons_of_mem _ (gIn k_132 (by decide +kernel)))) (fun _ h9 => h9) rfl d_Pk_height_6 ?_
      refine lv_topi (fun v_1 e_1 => ?_)
      obtain rfl : nI L = v_1 := (e_1.trans hL).symm
      refine lv_icmp_ge (tgt := 27) hx hb d_Pk_height_9 (by decide) (fun c_2 => ?_) (fun c_2 => ?_)
      · 
        have h_2 : L ≤ k := (nI_leI (a := L) (b := k) (by omega) (by omega)).mp c_2
        refine lv_iload_n hx hb d_Pk_height_27 rfl (lv_at hl 1 rfl) ?_
        exact W.iret (v := sm) hx hb hr (fun U hU hW => ⟨⟨sm, σ, rfl, by exact ⟨by rw [hs]; congr 1; omega, rfl⟩, by rw [hU]; exact hP, hD⟩, hS.F hU⟩) hS.2.2 d_Pk_height_28
      · 
        have h_2 : ¬ L ≤ k := fun q9 => c_2 ((nI_leI (a := L) (b := k) (by omega) (by omega)).mpr q9)
        refine lv_iload_n hx hb d_Pk_height_12 rfl (lv_at hl 1 rfl) ?_
        refine lv_aload_n hx hb d_Pk_height_13 rfl (lv_at hl 0 rfl) ?_
        refine va_get (D := D) (ci := 2) (v := .ref (a 202)) (C := R_Pk) (T := F_Pk) (N := 9) hx hb hts (fun w h => List.mem_cons_of_mem _ (i_Pk w h)) hown hK.1 hP 3 (wFb_o2 t a σ) rfl 2 (by decide) (hts (.fieldLink R_Pk 15 "FlatBoxes$Packing" "thick" "[I") (List.mem_cons_of_mem _ (gIn k_124 (by decide +kernel)))) (fun _ h9 => h9) rfl d_Pk_height_14 ?_
        refine lv_iload_n hx hb d_Pk_height_17 rfl (lv_at hl 2 rfl) ?_
        refine g_iald hx hb hK.1 hP 21 0 (wFb_202 t a σ) rfl k (rfl) (by omega) (by decide) d_Pk_height_18 ?_
        refine lv_iadd hx hb d_Pk_height_19 ?_
        refine lv_istore_n (lv' := [(1, .int (sm + (σ 202 k))), (0, .ref (a 299)), (2, .int (nI k))]) hx hb d_Pk_height_20 rfl hl (by decide) rfl (fun ls hl => ?_)
        refine lv_iinc (v := nI (k + 1)) (lv' := [(2, .int (nI (k + 1))), (1, .int (sm + (σ 202 k))), (0, .ref (a 299))]) hx hb d_Pk_height_21 hl (k := 2) rfl (nI_1 k) (by decide) rfl (fun ls hl => ?_)
        refine lv_goto (tgt := 4) hx hb d_Pk_height_24 (by decide) ?_
        exact ih (k + 1) (sm + (σ 202 k)) _ _ _ (by omega) (by omega) (by rw [hs]; rfl) hP hD hS (lv_sub hl [2, 1, 0] rfl)
  refine lv_iconst (v := 0) hx hb d_Pk_height_0 (by decide) ?_
  refine lv_istore_n (lv' := [(1, .int 0), (0, .ref (a 299))]) hx hb d_Pk_height_1 rfl hl (by decide) rfl (fun ls hl => ?_)
  refine lv_iconst (v := 0) hx hb d_Pk_height_2 (by decide) ?_
  refine lv_istore_n (lv' := [(2, .int 0), (1, .int 0), (0, .ref (a 299))]) hx hb d_Pk_height_3 rfl hl (by decide) rfl (fun ls hl => ?_)
  exact cut_4 (L + 1) 0 0 _ _ _ (by omega) (by omega) (by rfl) hP hD hS (lv_sub hl [2, 1, 0] rfl)
set_option maxHeartbeats 4000000 in
set_option maxRecDepth 100000 in
theorem c_Pk_fragileLayers (l : Launch) (D : va_G) (t : Nat → ClassId) (a : Nat → Nat) (σ : Nat → Nat → Int32) (L : Nat) (hL : σ 208 0 = nI L) (hL8 : L ≤ 8) : gMi l D t y_Pk_fragileLayers b_Pk_fragileLayers 3 (some .int) 0 [.ref (a 299)] (wFb t a σ) (wFb t a) (fun r u => r = fCnt (σ 205) L ∧ u = σ) := by
  intro A
  refine Met.ofW (cc := b_Pk_fragileLayers) (maxL := 3) (ret := (some .int)) (by decide) rfl ?_
  intro p e s m args below meth c s₁ B hml hv
  obtain ⟨rfl, hK, hP, hD⟩ := hv
  have hx := B.exec
  have hb := B.bytes
  have hr := B.returns
  have hts := atoms_spec (ws := .code y_Pk_fragileLayers b_Pk_fragileLayers 3 (some .int) :: gBig) B.pre
  have hown : s.vm.findClass R_Pk = some m.cls := findClass_of_methodNamed B.named
  have hlocks := B.notSynchronized
  have hS : va_S A s.heap s.heap [] := va_S.rf
  have hl := lv_entry ([.ref (a 299)]) (n := 3) (Nat.le_of_ble_eq_true rfl)
  rw [lg_entry_eq]
  generalize (lg_sl ([.ref (a 299)]) ++ List.replicate (3 - (lg_sl ([.ref (a 299)])).length) Slot.unset).toArray = ls at hl ⊢
  have hl : lv_has ls 3 [(0, .ref (a 299))] := hl
  show gGo l p e s m below meth c D t A 0 [.ref (a 299)] (wFb t a) (fun r u => r = fCnt (σ 205) L ∧ u = σ) s.heap [] (F0 m 0 ls [])
  have cut_4 : ∀ (n : Nat) (k : Nat) (sm : Int32) (H : Heap) (locs : List Loc) (ls : Array Slot), (k ≤ L) → (L + 1 ≤ k + n) → (sm = fCnt (σ 205) k) → va_P D gCl (wFb t a σ) H → va_D A (wFb t a σ) → va_S A s.heap H locs → lv_has ls 3 [(0, .ref (a 299)), (1, .int sm), (2, .int (nI k))] → gGo l p e s m below meth c D t A 0 [.ref (a 299)] (wFb t a) (fun r u => r = fCnt (σ 205) L ∧ u = σ) H locs (F0 m 4 ls []) := by
    intro n
    induction n with
    | zero =>
      intro k sm H locs ls hk hf hs hP hD hS hl
      exact absurd hf (by omega)
    | succ n ih =>
      intro k sm H locs ls hk hf hs hP hD hS hl
      refine lv_iload_n hx hb d_Pk_fragileLayers_4 rfl (lv_at hl 2 rfl) ?_
      refine lv_aload_n hx hb d_Pk_fragileLayers_5 rfl (lv_at hl 0 rfl) ?_
      refine va_get (D := D) (ci := 2) (v := .int (σ 208 0)) (C := R_Pk) (T := F_Pk) (N := 9) hx hb hts (fun w h => List.mem_cons_of_mem _ (i_Pk w h)) hown hK.1 hP 3 (wFb_o2 t a σ) rfl 8 (by decide) (hts (.fieldLink R_Pk 70 "FlatBoxes$Packing" "layers" "I") (List.mem_cons_of_mem _ (gIn k_132 (by decide +kernel)))) (fun _ h9 => h9) rfl d_Pk_fragileLayers_6 ?_
      refine lv_topi (fun v_1 e_1 => ?_)
      obtain rfl : nI L = v_1 := (e_1.trans hL).symm
      refine lv_icmp_ge (tgt := 30) hx hb d_Pk_fragileLayers_9 (by decide) (fun c_2 => ?_) (fun c_2 => ?_)
      · 
        have h_2 : L ≤ k := (nI_leI (a := L) (b := k) (by omega) (by omega)).mp c_2
        refine lv_iload_n hx hb d_Pk_fragileLayers_30 rfl (lv_at hl 1 rfl) ?_
        exact W.iret (v := sm) hx hb hr (fun U hU hW => ⟨⟨sm, σ, rfl, by exact ⟨by rw [hs]; congr 1; omega, rfl⟩, by rw [hU]; exact hP, hD⟩, hS.F hU⟩) hS.2.2 d_Pk_fragileLayers_31
      · 
        have h_2 : ¬ L ≤ k := fun q9 => c_2 ((nI_leI (a := L) (b := k) (by omega) (by omega)).mpr q9)
        refine lv_aload_n hx hb d_Pk_fragileLayers_12 rfl (lv_at hl 0 rfl) ?_
        refine va_get (D := D) (ci := 2) (v := .ref (a 205)) (C := R_Pk) (T := F_Pk) (N := 9) hx hb hts (fun w h => List.mem_cons_of_mem _ (i_Pk w h)) hown hK.1 hP 3 (wFb_o2 t a σ) rfl 5 (by decide) (hts (.fieldLink R_Pk 24 "FlatBoxes$Packing" "fragile" "[Z") (List.mem_cons_of_mem _ (gIn k_127 (by decide +kernel)))) (fun _ h9 => h9) rfl d_Pk_fragileLayers_13 ?_
        refine lv_iload_n hx hb d_Pk_fragileLayers_16 rfl (lv_at hl 2 rfl) ?_
        refine g_zald hx hb hK.1 hP 24 1 (wFb_205 t a σ) rfl k (rfl) (by omega) (by decide) d_Pk_fragileLayers_17 ?_
        refine lv_if_eq (tgt := 24) hx hb d_Pk_fragileLayers_18 (by decide) (fun c_3 => ?_) (fun c_3 => ?_)
        · 
          refine lv_iinc (v := nI (k + 1)) (lv' := [(2, .int (nI (k + 1))), (0, .ref (a 299)), (1, .int sm)]) hx hb d_Pk_fragileLayers_24 hl (k := 2) rfl (nI_1 k) (by decide) rfl (fun ls hl => ?_)
          refine lv_goto (tgt := 4) hx hb d_Pk_fragileLayers_27 (by decide) ?_
          exact ih (k + 1) sm _ _ _ (by omega) (by omega) (by rw [hs]; simp [fCnt, c_2, h_2, c_3]) hP hD hS (lv_sub hl [1, 2, 0] rfl)
        · 
          refine lv_iinc (v := sm + 1) (lv' := [(1, .int (sm + 1)), (0, .ref (a 299)), (2, .int (nI k))]) hx hb d_Pk_fragileLayers_21 hl (k := 1) rfl (rfl) (by decide) rfl (fun ls hl => ?_)
          refine lv_iinc (v := nI (k + 1)) (lv' := [(2, .int (nI (k + 1))), (1, .int (sm + 1)), (0, .ref (a 299))]) hx hb d_Pk_fragileLayers_24 hl (k := 2) rfl (nI_1 k) (by decide) rfl (fun ls hl => ?_)
          refine lv_goto (tgt := 4) hx hb d_Pk_fragileLayers_27 (by decide) ?_
          exact ih (k + 1) (sm + 1) _ _ _ (by omega) (by omega) (by rw [hs]; simp [fCnt, c_2, h_2, c_3]) hP hD hS (lv_sub hl [2, 1, 0] rfl)
  refine lv_iconst (v := 0) hx hb d_Pk_fragileLayers_0 (by decide) ?_
  refine lv_istore_n (lv' := [(1, .int 0), (0, .ref (a 299))]) hx hb d_Pk_fragileLayers_1 rfl hl (by decide) rfl (fun ls hl => ?_)
  refine lv_iconst (v := 0) hx hb d_Pk_fragileLayers_2 (by decide) ?_
  refine lv_istore_n (lv' := [(2, .int 0), (1, .int 0), (0, .ref (a 299))]) hx hb d_Pk_fragileLayers_3 rfl hl (by decide) rfl (fun ls hl => ?_)
  exact cut_4 (L + 1) 0 0 _ _ _ (by omega) (by omega) (by rfl) hP hD hS (lv_sub hl [2, 1, 0] rfl)
set_option maxHeartbeats 4000000 in
set_option maxRecDepth 100000 in
theorem c_Pk_firstWithRoom (l : Launch) (D : va_G) (t : Nat → ClassId) (a : Nat → Nat) (σ : Nat → Nat → Int32) (pw wide : Int32) (L : Nat) (hL : σ 208 0 = nI L) (hL8 : L ≤ 8) : gMi l D t y_Pk_firstWithRoom b_Pk_firstWithRoom 4 (some .int) 0 [.ref (a 299), .int pw, .int wide] (wFb t a σ) (wFb t a) (fun r u => r = nI (mRoom (σ 201) (σ 200 0) pw wide L 0) ∧ u = σ) := by
  intro A
  refine Met.ofW (cc := b_Pk_firstWithRoom) (maxL := 4) (ret := (some .int)) (by decide) rfl ?_
  intro p e s m args below meth c s₁ B hml hv
  obtain ⟨rfl, hK, hP, hD⟩ := hv
  have hx := B.exec
  have hb := B.bytes
  have hr := B.returns
  have hts := atoms_spec (ws := .code y_Pk_firstWithRoom b_Pk_firstWithRoom 4 (some .int) :: gBig) B.pre
  have hown : s.vm.findClass R_Pk = some m.cls := findClass_of_methodNamed B.named
  have hlocks := B.notSynchronized
  have hS : va_S A s.heap s.heap [] := va_S.rf
  have hl := lv_entry ([.ref (a 299), .int pw, .int wide]) (n := 4) (Nat.le_of_ble_eq_true rfl)
  rw [lg_entry_eq]
  generalize (lg_sl ([.ref (a 299), .int pw, .int wide]) ++ List.replicate (4 - (lg_sl ([.ref (a 299), .int pw, .int wide])).length) Slot.unset).toArray = ls at hl ⊢
  have hl : lv_has ls 4 [(0, .ref (a 299)), (1, .int pw), (2, .int wide)] := hl
  show gGo l p e s m below meth c D t A 0 [.ref (a 299), .int pw, .int wide] (wFb t a) (fun r u => r = nI (mRoom (σ 201) (σ 200 0) pw wide L 0) ∧ u = σ) s.heap [] (F0 m 0 ls [])
  have cut_2 : ∀ (n : Nat) (d : Nat) (j : Nat) (H : Heap) (locs : List Loc) (ls : Array Slot), (j + d = L) → (d + 1 ≤ n) → (mRoom (σ 201) (σ 200 0) pw wide L 0 = mRoom (σ 201) (σ 200 0) pw wide d j) → va_P D gCl (wFb t a σ) H → va_D A (wFb t a σ) → va_S A s.heap H locs → lv_has ls 4 [(0, .ref (a 299)), (1, .int pw), (2, .int wide), (3, .int (nI j))] → gGo l p e s m below meth c D t A 0 [.ref (a 299), .int pw, .int wide] (wFb t a) (fun r u => r = nI (mRoom (σ 201) (σ 200 0) pw wide L 0) ∧ u = σ) H locs (F0 m 2 ls []) := by
    intro n
    induction n with
    | zero =>
      intro d j H locs ls hd hf hs hP hD hS hl
      exact absurd hf (by omega)
    | succ n ih =>
      intro d j H locs ls hd hf hs hP hD hS hl
      refine lv_iload_n hx hb d_Pk_firstWithRoom_2 rfl (lv_at hl 3 rfl) ?_
      refine lv_aload_n hx hb d_Pk_firstWithRoom_3 rfl (lv_at hl 0 rfl) ?_
      refine va_get (D := D) (ci := 2) (v := .int (σ 208 0)) (C := R_Pk) (T := F_Pk) (N := 9) hx hb hts (fun w h => List.mem_cons_of_mem _ (i_Pk w h)) hown hK.1 hP 3 (wFb_o2 t a σ) rfl 8 (by decide) (hts (.fieldLink R_Pk 70 "FlatBoxes$Packing" "layers" "I") (List.mem_cons_of_mem _ (gIn k_132 (by decide +kernel)))) (fun _ h9 => h9) rfl d_Pk_firstWithRoom_4 ?_
      refine lv_topi (fun v_1 e_1 => ?_)
      obtain rfl : nI L = v_1 := (e_1.trans hL).symm
      refine lv_icmp_ge (tgt := 33) hx hb d_Pk_firstWithRoom_7 (by decide) (fun c_2 => ?_) (fun c_2 => ?_)
      · 
        have h_2 : L ≤ j := (nI_leI (a := L) (b := j) (by omega) (by omega)).mp c_2
        refine lv_iload_n hx hb d_Pk_firstWithRoom_33 rfl (lv_at hl 3 rfl) ?_
        exact W.iret (v := nI j) hx hb hr (fun U hU hW => ⟨⟨nI j, σ, rfl, by exact ⟨by rw [hs]; obtain rfl : d = 0 := (by omega); rfl, rfl⟩, by rw [hU]; exact hP, hD⟩, hS.F hU⟩) hS.2.2 d_Pk_firstWithRoom_34
      · 
        have h_2 : ¬ L ≤ j := fun q9 => c_2 ((nI_leI (a := L) (b := j) (by omega) (by omega)).mpr q9)
        obtain ⟨d, rfl⟩ : ∃ d9, d = d9 + 1 := ⟨d - 1, by omega⟩
        refine lv_aload_n hx hb d_Pk_firstWithRoom_10 rfl (lv_at hl 0 rfl) ?_
        refine va_get (D := D) (ci := 2) (v := .ref (a 201)) (C := R_Pk) (T := F_Pk) (N := 9) hx hb hts (fun w h => List.mem_cons_of_mem _ (i_Pk w h)) hown hK.1 hP 3 (wFb_o2 t a σ) rfl 1 (by decide) (hts (.fieldLink R_Pk 9 "FlatBoxes$Packing" "end" "[I") (List.mem_cons_of_mem _ (gIn k_123 (by decide +kernel)))) (fun _ h9 => h9) rfl d_Pk_firstWithRoom_11 ?_
        refine lv_iload_n hx hb d_Pk_firstWithRoom_14 rfl (lv_at hl 3 rfl) ?_
        refine g_iald hx hb hK.1 hP 20 0 (wFb_201 t a σ) rfl j (rfl) (by omega) (by decide) d_Pk_firstWithRoom_15 ?_
        refine lv_aload_n hx hb d_Pk_firstWithRoom_16 rfl (lv_at hl 0 rfl) ?_
        refine va_get (D := D) (ci := 2) (v := .int (σ 200 0)) (C := R_Pk) (T := F_Pk) (N := 9) hx hb hts (fun w h => List.mem_cons_of_mem _ (i_Pk w h)) hown hK.1 hP 3 (wFb_o2 t a σ) rfl 0 (by decide) (hts (.fieldLink R_Pk 34 "FlatBoxes$Packing" "gap" "I") (List.mem_cons_of_mem _ (gIn k_122 (by decide +kernel)))) (fun _ h9 => h9) rfl d_Pk_firstWithRoom_17 ?_
        refine lv_iadd hx hb d_Pk_firstWithRoom_20 ?_
        refine lv_iload_n hx hb d_Pk_firstWithRoom_21 rfl (lv_at hl 1 rfl) ?_
        refine lv_iadd hx hb d_Pk_firstWithRoom_22 ?_
        refine lv_iload_n hx hb d_Pk_firstWithRoom_23 rfl (lv_at hl 2 rfl) ?_
        refine lv_icmp_le (tgt := 33) hx hb d_Pk_firstWithRoom_24 (by decide) (fun c_3 => ?_) (fun c_3 => ?_)
        · 
          refine lv_iload_n hx hb d_Pk_firstWithRoom_33 rfl (lv_at hl 3 rfl) ?_
          exact W.iret (v := nI j) hx hb hr (fun U hU hW => ⟨⟨nI j, σ, rfl, by exact ⟨by rw [hs]; simp [mRoom, c_2, h_2, c_3], rfl⟩, by rw [hU]; exact hP, hD⟩, hS.F hU⟩) hS.2.2 d_Pk_firstWithRoom_34
        · 
          refine lv_iinc (v := nI (j + 1)) (lv' := [(3, .int (nI (j + 1))), (0, .ref (a 299)), (1, .int pw), (2, .int wide)]) hx hb d_Pk_firstWithRoom_27 hl (k := 3) rfl (nI_1 j) (by decide) rfl (fun ls hl => ?_)
          refine lv_goto (tgt := 2) hx hb d_Pk_firstWithRoom_30 (by decide) ?_
          exact ih d (j + 1) _ _ _ (by omega) (by omega) (by rw [hs]; simp [mRoom, c_2, h_2, c_3]) hP hD hS (lv_sub hl [1, 2, 3, 0] rfl)
  refine lv_iconst (v := 0) hx hb d_Pk_firstWithRoom_0 (by decide) ?_
  refine lv_istore_n (lv' := [(3, .int 0), (0, .ref (a 299)), (1, .int pw), (2, .int wide)]) hx hb d_Pk_firstWithRoom_1 rfl hl (by decide) rfl (fun ls hl => ?_)
  exact cut_2 (L + 1) L 0 _ _ _ (by omega) (by omega) (rfl) hP hD hS (lv_sub hl [1, 2, 3, 0] rfl)
set_option maxHeartbeats 4000000 in
set_option maxRecDepth 100000 in
theorem c_Pk_open (l : Launch) (D : va_G) (t : Nat → ClassId) (a : Nat → Nat) (σ : Nat → Nat → Int32) (j : Nat) (th : Int32) (hj : j < 8) : gMv l D t y_Pk_open b_Pk_open 3 0 [.ref (a 299), .int (nI j), .int th] (wFb t a σ) (wFb t a) (fun u => u = fOpen σ j th) := by
  intro A
  refine Met.ofW (cc := b_Pk_open) (maxL := 3) (ret := none) (by decide) rfl ?_
  intro p e s m args below meth c s₁ B hml hv
  obtain ⟨rfl, hK, hP, hD⟩ := hv
  have hx := B.exec
  have hb := B.bytes
  have hr := B.returns
  have hts := atoms_spec (ws := .code y_Pk_open b_Pk_open 3 none :: gBig) B.pre
  have hown : s.vm.findClass R_Pk = some m.cls := findClass_of_methodNamed B.named
  have hlocks := B.notSynchronized
  have hS : va_S A s.heap s.heap [] := va_S.rf
  have hl := lv_entry ([.ref (a 299), .int (nI j), .int th]) (n := 3) (Nat.le_of_ble_eq_true rfl)
  rw [lg_entry_eq]
  generalize (lg_sl ([.ref (a 299), .int (nI j), .int th]) ++ List.replicate (3 - (lg_sl ([.ref (a 299), .int (nI j), .int th])).length) Slot.unset).toArray = ls at hl ⊢
  have hl : lv_has ls 3 [(0, .ref (a 299)), (1, .int (nI j)), (2, .int th)] := hl
  show gGov l p e s m below meth c D t A 0 [.ref (a 299), .int (nI j), .int th] (wFb t a) (fun u => u = fOpen σ j th) s.heap [] (F0 m 0 ls [])
  refine lv_aload_n hx hb d_Pk_open_0 rfl (lv_at hl 0 rfl) ?_
  refine va_get (D := D) (ci := 2) (v := .ref (a 202)) (C := R_Pk) (T := F_Pk) (N := 9) hx hb hts (fun w h => List.mem_cons_of_mem _ (i_Pk w h)) hown hK.1 hP 3 (wFb_o2 t a σ) rfl 2 (by decide) (hts (.fieldLink R_Pk 15 "FlatBoxes$Packing" "thick" "[I") (List.mem_cons_of_mem _ (gIn k_124 (by decide +kernel)))) (fun _ h9 => h9) rfl d_Pk_open_1 ?_
  refine lv_iload_n hx hb d_Pk_open_4 rfl (lv_at hl 1 rfl) ?_
  refine lv_iload_n hx hb d_Pk_open_5 rfl (lv_at hl 2 rfl) ?_
  refine g_iast hx hb hK.1 hP hD hS 21 0 (wFb_202 t a σ) rfl j (rfl) (by omega) (by decide) (w' := wFb t a (gSt σ 202 j th)) (sFb_202 t a σ j th) d_Pk_open_6 (fun H locs hP hD hS => ?_)
  refine lv_aload_n hx hb d_Pk_open_7 rfl (lv_at hl 0 rfl) ?_
  refine va_get (D := D) (ci := 2) (v := .ref (a 203)) (C := R_Pk) (T := F_Pk) (N := 9) hx hb hts (fun w h => List.mem_cons_of_mem _ (i_Pk w h)) hown hK.1 hP 3 (wFb_o2 t a (gSt σ 202 j th)) rfl 3 (by decide) (hts (.fieldLink R_Pk 18 "FlatBoxes$Packing" "grams" "[I") (List.mem_cons_of_mem _ (gIn k_125 (by decide +kernel)))) (fun _ h9 => h9) rfl d_Pk_open_8 ?_
  refine lv_iload_n hx hb d_Pk_open_11 rfl (lv_at hl 1 rfl) ?_
  refine lv_iconst (v := 0) hx hb d_Pk_open_12 (by decide) ?_
  refine g_iast hx hb hK.1 hP hD hS 22 0 (wFb_203 t a (gSt σ 202 j th)) rfl j (rfl) (by omega) (by decide) (w' := wFb t a (gSt (gSt σ 202 j th) 203 j 0)) (sFb_203 t a (gSt σ 202 j th) j 0) d_Pk_open_13 (fun H locs hP hD hS => ?_)
  refine lv_aload_n hx hb d_Pk_open_14 rfl (lv_at hl 0 rfl) ?_
  refine va_get (D := D) (ci := 2) (v := .ref (a 204)) (C := R_Pk) (T := F_Pk) (N := 9) hx hb hts (fun w h => List.mem_cons_of_mem _ (i_Pk w h)) hown hK.1 hP 3 (wFb_o2 t a (gSt (gSt σ 202 j th) 203 j 0)) rfl 4 (by decide) (hts (.fieldLink R_Pk 21 "FlatBoxes$Packing" "firstStep" "[I") (List.mem_cons_of_mem _ (gIn k_126 (by decide +kernel)))) (fun _ h9 => h9) rfl d_Pk_open_15 ?_
  refine lv_iload_n hx hb d_Pk_open_18 rfl (lv_at hl 1 rfl) ?_
  refine lv_bipush (v := 50) hx hb d_Pk_open_19 (by decide) ?_
  refine g_iast hx hb hK.1 hP hD hS 23 0 (wFb_204 t a (gSt (gSt σ 202 j th) 203 j 0)) rfl j (rfl) (by omega) (by decide) (w' := wFb t a (gSt (gSt (gSt σ 202 j th) 203 j 0) 204 j 50)) (sFb_204 t a (gSt (gSt σ 202 j th) 203 j 0) j 50) d_Pk_open_21 (fun H locs hP hD hS => ?_)
  refine lv_aload_n hx hb d_Pk_open_22 rfl (lv_at hl 0 rfl) ?_
  refine va_get (D := D) (ci := 2) (v := .ref (a 205)) (C := R_Pk) (T := F_Pk) (N := 9) hx hb hts (fun w h => List.mem_cons_of_mem _ (i_Pk w h)) hown hK.1 hP 3 (wFb_o2 t a (gSt (gSt (gSt σ 202 j th) 203 j 0) 204 j 50)) rfl 5 (by decide) (hts (.fieldLink R_Pk 24 "FlatBoxes$Packing" "fragile" "[Z") (List.mem_cons_of_mem _ (gIn k_127 (by decide +kernel)))) (fun _ h9 => h9) rfl d_Pk_open_23 ?_
  refine lv_iload_n hx hb d_Pk_open_26 rfl (lv_at hl 1 rfl) ?_
  refine lv_iconst (v := 0) hx hb d_Pk_open_27 (by decide) ?_
  refine g_zast hx hb hK.1 hP hD hS 24 1 (wFb_205 t a (gSt (gSt (gSt σ 202 j th) 203 j 0) 204 j 50)) rfl (Or.inl rfl) j (rfl) (by omega) (by decide) (w' := wFb t a (gSt (gSt (gSt (gSt σ 202 j th) 203 j 0) 204 j 50) 205 j 0)) (sFb_205 t a (gSt (gSt (gSt σ 202 j th) 203 j 0) 204 j 50) j 0) d_Pk_open_28 (fun H locs hP hD hS => ?_)
  refine lv_aload_n hx hb d_Pk_open_29 rfl (lv_at hl 0 rfl) ?_
  refine lv_iload_n hx hb d_Pk_open_30 rfl (lv_at hl 1 rfl) ?_
  refine lv_iconst (v := 1) hx hb d_Pk_open_31 (by decide) ?_
  refine lv_iadd hx hb d_Pk_open_32 ?_
  refine lv_topi (fun v_1 e_1 => ?_)
  obtain rfl : nI (j + 1) = v_1 := (e_1.trans (nI_1 _)).symm
  refine va_put (D := D) (ci := 2) (v := .int (nI (j + 1))) (ty := .int) (C := R_Pk) (T := F_Pk) (N := 9) hx hb hts (fun w h => List.mem_cons_of_mem _ (i_Pk w h)) t_Pk t_Pk_ok n_Pk hown hK.1 hP hD hS 3 (wFb_o2 t a (gSt (gSt (gSt (gSt σ 202 j th) 203 j 0) 204 j 50) 205 j 0)) rfl 8 (by decide) (hts (.fieldLink R_Pk 70 "FlatBoxes$Packing" "layers" "I") (List.mem_cons_of_mem _ (gIn k_132 (by decide +kernel)))) (fun _ h9 => h9) rfl (by decide +kernel) rfl rfl (Nat.le_of_ble_eq_true rfl) d_Pk_open_33 (fun H locs hP hD hS => ?_)
  have hP : va_P D gCl (wFb t a (gSt (gSt (gSt (gSt (gSt σ 202 j th) 203 j 0) 204 j 50) 205 j 0) 208 0 (nI (j + 1)))) H := hP
  have hD : va_D A (wFb t a (gSt (gSt (gSt (gSt (gSt σ 202 j th) 203 j 0) 204 j 50) 205 j 0) 208 0 (nI (j + 1)))) := hD
  exact W.vret hx hb hr (fun U hU hW => ⟨⟨gSt (gSt (gSt (gSt (gSt σ 202 j th) 203 j 0) 204 j 50) 205 j 0) 208 0 (nI (j + 1)), rfl, by rfl, by rw [hU]; exact hP, hD⟩, hS.F hU⟩) hS.2.2 d_Pk_open_36
set_option maxHeartbeats 4000000 in
set_option maxRecDepth 100000 in
theorem c_Pk_lay (l : Launch) (D : va_G) (t : Nat → ClassId) (a : Nat → Nat) (σ : Nat → Nat → Int32) (q j : Nat) (hq : q < 8) (hj : j < 8) (L : Nat) (hL : σ 208 0 = nI L) (hL8 : L ≤ 8) : gMv l D t y_Pk_lay b_Pk_lay 5 1 [.ref (a 299), .ref (a 399), .int (nI q), .int (nI j)] (wFb t a σ) (wFb t a) (fun u => u = fLay σ q j L) := by
  intro A
  refine Met.ofW (cc := b_Pk_lay) (maxL := 5) (ret := none) (by decide) rfl ?_
  intro p e s m args below meth c s₁ B hml hv
  obtain ⟨rfl, hK, hP, hD⟩ := hv
  have hx := B.exec
  have hb := B.bytes
  have hr := B.returns
  have hts := atoms_spec (ws := .code y_Pk_lay b_Pk_lay 5 none :: gBig) B.pre
  have hown : s.vm.findClass R_Pk = some m.cls := findClass_of_methodNamed B.named
  have hlocks := B.notSynchronized
  have hS : va_S A s.heap s.heap [] := va_S.rf
  have hl := lv_entry ([.ref (a 299), .ref (a 399), .int (nI q), .int (nI j)]) (n := 5) (Nat.le_of_ble_eq_true rfl)
  rw [lg_entry_eq]
  generalize (lg_sl ([.ref (a 299), .ref (a 399), .int (nI q), .int (nI j)]) ++ List.replicate (5 - (lg_sl ([.ref (a 299), .ref (a 399), .int (nI q), .int (nI j)])).length) Slot.unset).toArray = ls at hl ⊢
  have hl : lv_has ls 5 [(0, .ref (a 299)), (1, .ref (a 399)), (2, .int (nI q)), (3, .int (nI j))] := hl
  show gGov l p e s m below meth c D t A 1 [.ref (a 299), .ref (a 399), .int (nI q), .int (nI j)] (wFb t a) (fun u => u = fLay σ q j L) s.heap [] (F0 m 0 ls [])
  have cut_104 : ∀ (τ : Nat → Nat → Int32) (H : Heap) (locs : List Loc) (ls : Array Slot), (fLay σ q j L = fLay3 τ q j) → va_P D gCl (wFb t a τ) H → va_D A (wFb t a τ) → va_S A s.heap H locs → lv_has ls 5 [(0, .ref (a 299)), (1, .ref (a 399)), (2, .int (nI q)), (3, .int (nI j))] → gGov l p e s m below meth c D t A 1 [.ref (a 299), .ref (a 399), .int (nI q), .int (nI j)] (wFb t a) (fun u => u = fLay σ q j L) H locs (F0 m 104 ls []) := by
    intro τ H locs ls hτ hP hD hS hl
    refine lv_aload_n hx hb d_Pk_lay_104 rfl (lv_at hl 0 rfl) ?_
    refine va_get (D := D) (ci := 2) (v := .ref (a 205)) (C := R_Pk) (T := F_Pk) (N := 9) hx hb hts (fun w h => List.mem_cons_of_mem _ (i_Pk w h)) hown hK.1 hP 3 (wFb_o2 t a τ) rfl 5 (by decide) (hts (.fieldLink R_Pk 24 "FlatBoxes$Packing" "fragile" "[Z") (List.mem_cons_of_mem _ (gIn k_127 (by decide +kernel)))) (fun _ h9 => h9) rfl d_Pk_lay_105 ?_
    refine lv_iload_n hx hb d_Pk_lay_108 rfl (lv_at hl 3 rfl) ?_
    refine lv_aload_n hx hb d_Pk_lay_109 rfl (lv_at hl 0 rfl) ?_
    refine va_get (D := D) (ci := 2) (v := .ref (a 205)) (C := R_Pk) (T := F_Pk) (N := 9) hx hb hts (fun w h => List.mem_cons_of_mem _ (i_Pk w h)) hown hK.1 hP 3 (wFb_o2 t a τ) rfl 5 (by decide) (hts (.fieldLink R_Pk 24 "FlatBoxes$Packing" "fragile" "[Z") (List.mem_cons_of_mem _ (gIn k_127 (by decide +kernel)))) (fun _ h9 => h9) rfl d_Pk_lay_110 ?_
    refine lv_iload_n hx hb d_Pk_lay_113 rfl (lv_at hl 3 rfl) ?_
    refine g_zald hx hb hK.1 hP 24 1 (wFb_205 t a τ) rfl j (rfl) (by omega) (by decide) d_Pk_lay_114 ?_
    refine lv_if_ne (tgt := 127) hx hb d_Pk_lay_115 (by decide) (fun c_1 => ?_) (fun c_1 => ?_)
    · 
      refine lv_iconst (v := 1) hx hb d_Pk_lay_127 (by decide) ?_
      refine lv_goto (tgt := 132) hx hb d_Pk_lay_128 (by decide) ?_
      refine g_zast hx hb hK.1 hP hD hS 24 1 (wFb_205 t a τ) rfl (Or.inr rfl) j (rfl) (by omega) (by decide) (w' := wFb t a (gSt τ 205 j 1)) (sFb_205 t a τ j 1) d_Pk_lay_132 (fun H locs hP hD hS => ?_)
      exact W.vret hx hb hr (fun U hU hW => ⟨⟨gSt τ 205 j 1, rfl, by rw [hτ]; simp [fLay3, c_1], by rw [hU]; exact hP, hD⟩, hS.F hU⟩) hS.2.2 d_Pk_lay_133
    · 
      refine lv_aload_n hx hb d_Pk_lay_118 rfl (lv_at hl 1 rfl) ?_
      refine va_get (D := D) (ci := 3) (v := .ref (a 305)) (C := R_Pt) (T := F_Pt) (N := 9) hx hb hts (fun w h => List.mem_cons_of_mem _ (i_Pt w h)) hown hK.1 hP 2 (wFb_o3 t a τ) rfl 5 (by decide) (hts (.fieldLink R_Pk 105 "FlatBoxes$Parts" "fragile" "[Z") (List.mem_cons_of_mem _ (gIn k_80 (by decide +kernel)))) (fun _ h9 => h9) rfl d_Pk_lay_119 ?_
      refine lv_iload_n hx hb d_Pk_lay_122 rfl (lv_at hl 2 rfl) ?_
      refine g_zald hx hb hK.1 hP 17 1 (wFb_305 t a τ) rfl q (rfl) (by omega) (by decide) d_Pk_lay_123 ?_
      refine lv_if_eq (tgt := 131) hx hb d_Pk_lay_124 (by decide) (fun c_2 => ?_) (fun c_2 => ?_)
      · 
        refine lv_iconst (v := 0) hx hb d_Pk_lay_131 (by decide) ?_
        refine g_zast hx hb hK.1 hP hD hS 24 1 (wFb_205 t a τ) rfl (Or.inl rfl) j (rfl) (by omega) (by decide) (w' := wFb t a (gSt τ 205 j 0)) (sFb_205 t a τ j 0) d_Pk_lay_132 (fun H locs hP hD hS => ?_)
        exact W.vret hx hb hr (fun U hU hW => ⟨⟨gSt τ 205 j 0, rfl, by rw [hτ]; simp [fLay3, c_1, c_2], by rw [hU]; exact hP, hD⟩, hS.F hU⟩) hS.2.2 d_Pk_lay_133
      · 
        refine lv_iconst (v := 1) hx hb d_Pk_lay_127 (by decide) ?_
        refine lv_goto (tgt := 132) hx hb d_Pk_lay_128 (by decide) ?_
        refine g_zast hx hb hK.1 hP hD hS 24 1 (wFb_205 t a τ) rfl (Or.inr rfl) j (rfl) (by omega) (by decide) (w' := wFb t a (gSt τ 205 j 1)) (sFb_205 t a τ j 1) d_Pk_lay_132 (fun H locs hP hD hS => ?_)
        exact W.vret hx hb hr (fun U hU hW => ⟨⟨gSt τ 205 j 1, rfl, by rw [hτ]; simp [fLay3, c_1, c_2], by rw [hU]; exact hP, hD⟩, hS.F hU⟩) hS.2.2 d_Pk_lay_133
  have cut_38 : ∀ (x : Int32) (τ : Nat → Nat → Int32) (H : Heap) (locs : List Loc) (ls : Array Slot), (fLay σ q j L = fLay3 (fLay1 τ q j x) q j) → va_P D gCl (wFb t a τ) H → va_D A (wFb t a τ) → va_S A s.heap H locs → lv_has ls 5 [(0, .ref (a 299)), (1, .ref (a 399)), (2, .int (nI q)), (3, .int (nI j)), (4, .int x)] → gGov l p e s m below meth c D t A 1 [.ref (a 299), .ref (a 399), .int (nI q), .int (nI j)] (wFb t a) (fun u => u = fLay σ q j L) H locs (F0 m 38 ls []) := by
    intro x τ H locs ls hτ hP hD hS hl
    refine lv_aload_n hx hb d_Pk_lay_38 rfl (lv_at hl 0 rfl) ?_
    refine va_get (D := D) (ci := 2) (v := .ref (a 206)) (C := R_Pk) (T := F_Pk) (N := 9) hx hb hts (fun w h => List.mem_cons_of_mem _ (i_Pk w h)) hown hK.1 hP 3 (wFb_o2 t a τ) rfl 6 (by decide) (hts (.fieldLink R_Pk 28 "FlatBoxes$Packing" "layerOf" "[I") (List.mem_cons_of_mem _ (gIn k_128 (by decide +kernel)))) (fun _ h9 => h9) rfl d_Pk_lay_39 ?_
    refine lv_iload_n hx hb d_Pk_lay_42 rfl (lv_at hl 2 rfl) ?_
    refine lv_iload_n hx hb d_Pk_lay_43 rfl (lv_at hl 3 rfl) ?_
    refine g_iast hx hb hK.1 hP hD hS 25 0 (wFb_206 t a τ) rfl q (rfl) (by omega) (by decide) (w' := wFb t a (gSt τ 206 q (nI j))) (sFb_206 t a τ q (nI j)) d_Pk_lay_44 (fun H locs hP hD hS => ?_)
    refine lv_aload_n hx hb d_Pk_lay_45 rfl (lv_at hl 0 rfl) ?_
    refine va_get (D := D) (ci := 2) (v := .ref (a 207)) (C := R_Pk) (T := F_Pk) (N := 9) hx hb hts (fun w h => List.mem_cons_of_mem _ (i_Pk w h)) hown hK.1 hP 3 (wFb_o2 t a (gSt τ 206 q (nI j))) rfl 7 (by decide) (hts (.fieldLink R_Pk 31 "FlatBoxes$Packing" "xOf" "[I") (List.mem_cons_of_mem _ (gIn k_130 (by decide +kernel)))) (fun _ h9 => h9) rfl d_Pk_lay_46 ?_
    refine lv_iload_n hx hb d_Pk_lay_49 rfl (lv_at hl 2 rfl) ?_
    refine lv_iload hx hb d_Pk_lay_50 (lv_at hl 4 rfl) ?_
    refine g_iast hx hb hK.1 hP hD hS 26 0 (wFb_207 t a (gSt τ 206 q (nI j))) rfl q (rfl) (by omega) (by decide) (w' := wFb t a (gSt (gSt τ 206 q (nI j)) 207 q x)) (sFb_207 t a (gSt τ 206 q (nI j)) q x) d_Pk_lay_52 (fun H locs hP hD hS => ?_)
    refine lv_aload_n hx hb d_Pk_lay_53 rfl (lv_at hl 0 rfl) ?_
    refine va_get (D := D) (ci := 2) (v := .ref (a 201)) (C := R_Pk) (T := F_Pk) (N := 9) hx hb hts (fun w h => List.mem_cons_of_mem _ (i_Pk w h)) hown hK.1 hP 3 (wFb_o2 t a (gSt (gSt τ 206 q (nI j)) 207 q x)) rfl 1 (by decide) (hts (.fieldLink R_Pk 9 "FlatBoxes$Packing" "end" "[I") (List.mem_cons_of_mem _ (gIn k_123 (by decide +kernel)))) (fun _ h9 => h9) rfl d_Pk_lay_54 ?_
    refine lv_iload_n hx hb d_Pk_lay_57 rfl (lv_at hl 3 rfl) ?_
    refine lv_iload hx hb d_Pk_lay_58 (lv_at hl 4 rfl) ?_
    refine lv_aload_n hx hb d_Pk_lay_60 rfl (lv_at hl 1 rfl) ?_
    refine va_get (D := D) (ci := 3) (v := .ref (a 300)) (C := R_Pt) (T := F_Pt) (N := 9) hx hb hts (fun w h => List.mem_cons_of_mem _ (i_Pt w h)) hown hK.1 hP 2 (wFb_o3 t a (gSt (gSt τ 206 q (nI j)) 207 q x)) rfl 0 (by decide) (hts (.fieldLink R_Pk 83 "FlatBoxes$Parts" "width" "[I") (List.mem_cons_of_mem _ (gIn k_70 (by decide +kernel)))) (fun _ h9 => h9) rfl d_Pk_lay_61 ?_
    refine lv_iload_n hx hb d_Pk_lay_64 rfl (lv_at hl 2 rfl) ?_
    refine g_iald hx hb hK.1 hP 12 0 (wFb_300 t a (gSt (gSt τ 206 q (nI j)) 207 q x)) rfl q (rfl) (by omega) (by decide) d_Pk_lay_65 ?_
    refine lv_iadd hx hb d_Pk_lay_66 ?_
    refine g_iast hx hb hK.1 hP hD hS 20 0 (wFb_201 t a (gSt (gSt τ 206 q (nI j)) 207 q x)) rfl j (rfl) (by omega) (by decide) (w' := wFb t a (gSt (gSt (gSt τ 206 q (nI j)) 207 q x) 201 j (x + ((gSt (gSt τ 206 q (nI j)) 207 q x) 300 q)))) (sFb_201 t a (gSt (gSt τ 206 q (nI j)) 207 q x) j (x + ((gSt (gSt τ 206 q (nI j)) 207 q x) 300 q))) d_Pk_lay_67 (fun H locs hP hD hS => ?_)
    refine lv_aload_n hx hb d_Pk_lay_68 rfl (lv_at hl 0 rfl) ?_
    refine va_get (D := D) (ci := 2) (v := .ref (a 203)) (C := R_Pk) (T := F_Pk) (N := 9) hx hb hts (fun w h => List.mem_cons_of_mem _ (i_Pk w h)) hown hK.1 hP 3 (wFb_o2 t a (gSt (gSt (gSt τ 206 q (nI j)) 207 q x) 201 j (x + ((gSt (gSt τ 206 q (nI j)) 207 q x) 300 q)))) rfl 3 (by decide) (hts (.fieldLink R_Pk 18 "FlatBoxes$Packing" "grams" "[I") (List.mem_cons_of_mem _ (gIn k_125 (by decide +kernel)))) (fun _ h9 => h9) rfl d_Pk_lay_69 ?_
    refine lv_iload_n hx hb d_Pk_lay_72 rfl (lv_at hl 3 rfl) ?_
    refine lv_dup2_11 hx hb d_Pk_lay_73 rfl rfl ?_
    refine g_iald hx hb hK.1 hP 22 0 (wFb_203 t a (gSt (gSt (gSt τ 206 q (nI j)) 207 q x) 201 j (x + ((gSt (gSt τ 206 q (nI j)) 207 q x) 300 q)))) rfl j (rfl) (by omega) (by decide) d_Pk_lay_74 ?_
    refine lv_aload_n hx hb d_Pk_lay_75 rfl (lv_at hl 1 rfl) ?_
    refine va_get (D := D) (ci := 3) (v := .ref (a 303)) (C := R_Pt) (T := F_Pt) (N := 9) hx hb hts (fun w h => List.mem_cons_of_mem _ (i_Pt w h)) hown hK.1 hP 2 (wFb_o3 t a (gSt (gSt (gSt τ 206 q (nI j)) 207 q x) 201 j (x + ((gSt (gSt τ 206 q (nI j)) 207 q x) 300 q)))) rfl 3 (by decide) (hts (.fieldLink R_Pk 96 "FlatBoxes$Parts" "grams" "[I") (List.mem_cons_of_mem _ (gIn k_75 (by decide +kernel)))) (fun _ h9 => h9) rfl d_Pk_lay_76 ?_
    refine lv_iload_n hx hb d_Pk_lay_79 rfl (lv_at hl 2 rfl) ?_
    refine g_iald hx hb hK.1 hP 15 0 (wFb_303 t a (gSt (gSt (gSt τ 206 q (nI j)) 207 q x) 201 j (x + ((gSt (gSt τ 206 q (nI j)) 207 q x) 300 q)))) rfl q (rfl) (by omega) (by decide) d_Pk_lay_80 ?_
    refine lv_iadd hx hb d_Pk_lay_81 ?_
    refine g_iast hx hb hK.1 hP hD hS 22 0 (wFb_203 t a (gSt (gSt (gSt τ 206 q (nI j)) 207 q x) 201 j (x + ((gSt (gSt τ 206 q (nI j)) 207 q x) 300 q)))) rfl j (rfl) (by omega) (by decide) (w' := wFb t a (gSt (gSt (gSt (gSt τ 206 q (nI j)) 207 q x) 201 j (x + ((gSt (gSt τ 206 q (nI j)) 207 q x) 300 q))) 203 j (((gSt (gSt (gSt τ 206 q (nI j)) 207 q x) 201 j (x + ((gSt (gSt τ 206 q (nI j)) 207 q x) 300 q))) 203 j) + ((gSt (gSt (gSt τ 206 q (nI j)) 207 q x) 201 j (x + ((gSt (gSt τ 206 q (nI j)) 207 q x) 300 q))) 303 q)))) (sFb_203 t a (gSt (gSt (gSt τ 206 q (nI j)) 207 q x) 201 j (x + ((gSt (gSt τ 206 q (nI j)) 207 q x) 300 q))) j (((gSt (gSt (gSt τ 206 q (nI j)) 207 q x) 201 j (x + ((gSt (gSt τ 206 q (nI j)) 207 q x) 300 q))) 203 j) + ((gSt (gSt (gSt τ 206 q (nI j)) 207 q x) 201 j (x + ((gSt (gSt τ 206 q (nI j)) 207 q x) 300 q))) 303 q))) d_Pk_lay_82 (fun H locs hP hD hS => ?_)
    refine lv_aload_n hx hb d_Pk_lay_83 rfl (lv_at hl 0 rfl) ?_
    refine va_get (D := D) (ci := 2) (v := .ref (a 204)) (C := R_Pk) (T := F_Pk) (N := 9) hx hb hts (fun w h => List.mem_cons_of_mem _ (i_Pk w h)) hown hK.1 hP 3 (wFb_o2 t a (gSt (gSt (gSt (gSt τ 206 q (nI j)) 207 q x) 201 j (x + ((gSt (gSt τ 206 q (nI j)) 207 q x) 300 q))) 203 j (((gSt (gSt (gSt τ 206 q (nI j)) 207 q x) 201 j (x + ((gSt (gSt τ 206 q (nI j)) 207 q x) 300 q))) 203 j) + ((gSt (gSt (gSt τ 206 q (nI j)) 207 q x) 201 j (x + ((gSt (gSt τ 206 q (nI j)) 207 q x) 300 q))) 303 q)))) rfl 4 (by decide) (hts (.fieldLink R_Pk 21 "FlatBoxes$Packing" "firstStep" "[I") (List.mem_cons_of_mem _ (gIn k_126 (by decide +kernel)))) (fun _ h9 => h9) rfl d_Pk_lay_84 ?_
    refine lv_iload_n hx hb d_Pk_lay_87 rfl (lv_at hl 3 rfl) ?_
    refine lv_aload_n hx hb d_Pk_lay_88 rfl (lv_at hl 0 rfl) ?_
    refine va_get (D := D) (ci := 2) (v := .ref (a 204)) (C := R_Pk) (T := F_Pk) (N := 9) hx hb hts (fun w h => List.mem_cons_of_mem _ (i_Pk w h)) hown hK.1 hP 3 (wFb_o2 t a (gSt (gSt (gSt (gSt τ 206 q (nI j)) 207 q x) 201 j (x + ((gSt (gSt τ 206 q (nI j)) 207 q x) 300 q))) 203 j (((gSt (gSt (gSt τ 206 q (nI j)) 207 q x) 201 j (x + ((gSt (gSt τ 206 q (nI j)) 207 q x) 300 q))) 203 j) + ((gSt (gSt (gSt τ 206 q (nI j)) 207 q x) 201 j (x + ((gSt (gSt τ 206 q (nI j)) 207 q x) 300 q))) 303 q)))) rfl 4 (by decide) (hts (.fieldLink R_Pk 21 "FlatBoxes$Packing" "firstStep" "[I") (List.mem_cons_of_mem _ (gIn k_126 (by decide +kernel)))) (fun _ h9 => h9) rfl d_Pk_lay_89 ?_
    refine lv_iload_n hx hb d_Pk_lay_92 rfl (lv_at hl 3 rfl) ?_
    refine g_iald hx hb hK.1 hP 23 0 (wFb_204 t a (gSt (gSt (gSt (gSt τ 206 q (nI j)) 207 q x) 201 j (x + ((gSt (gSt τ 206 q (nI j)) 207 q x) 300 q))) 203 j (((gSt (gSt (gSt τ 206 q (nI j)) 207 q x) 201 j (x + ((gSt (gSt τ 206 q (nI j)) 207 q x) 300 q))) 203 j) + ((gSt (gSt (gSt τ 206 q (nI j)) 207 q x) 201 j (x + ((gSt (gSt τ 206 q (nI j)) 207 q x) 300 q))) 303 q)))) rfl j (rfl) (by omega) (by decide) d_Pk_lay_93 ?_
    refine lv_aload_n hx hb d_Pk_lay_94 rfl (lv_at hl 1 rfl) ?_
    refine va_get (D := D) (ci := 3) (v := .ref (a 304)) (C := R_Pt) (T := F_Pt) (N := 9) hx hb hts (fun w h => List.mem_cons_of_mem _ (i_Pt w h)) hown hK.1 hP 2 (wFb_o3 t a (gSt (gSt (gSt (gSt τ 206 q (nI j)) 207 q x) 201 j (x + ((gSt (gSt τ 206 q (nI j)) 207 q x) 300 q))) 203 j (((gSt (gSt (gSt τ 206 q (nI j)) 207 q x) 201 j (x + ((gSt (gSt τ 206 q (nI j)) 207 q x) 300 q))) 203 j) + ((gSt (gSt (gSt τ 206 q (nI j)) 207 q x) 201 j (x + ((gSt (gSt τ 206 q (nI j)) 207 q x) 300 q))) 303 q)))) rfl 4 (by decide) (hts (.fieldLink R_Pk 97 "FlatBoxes$Parts" "step" "[I") (List.mem_cons_of_mem _ (gIn k_77 (by decide +kernel)))) (fun _ h9 => h9) rfl d_Pk_lay_95 ?_
    refine lv_iload_n hx hb d_Pk_lay_98 rfl (lv_at hl 2 rfl) ?_
    refine g_iald hx hb hK.1 hP 16 0 (wFb_304 t a (gSt (gSt (gSt (gSt τ 206 q (nI j)) 207 q x) 201 j (x + ((gSt (gSt τ 206 q (nI j)) 207 q x) 300 q))) 203 j (((gSt (gSt (gSt τ 206 q (nI j)) 207 q x) 201 j (x + ((gSt (gSt τ 206 q (nI j)) 207 q x) 300 q))) 203 j) + ((gSt (gSt (gSt τ 206 q (nI j)) 207 q x) 201 j (x + ((gSt (gSt τ 206 q (nI j)) 207 q x) 300 q))) 303 q)))) rfl q (rfl) (by omega) (by decide) d_Pk_lay_99 ?_
    refine va_mmin hx hb (hml.trans hl.1.symm) hown (hts (.methodLink R_Pk 100 Lib.Math.min.name) (List.mem_cons_of_mem _ (gIn k_312 (by decide +kernel)))) (hts (.static Lib.Math.min.name) (List.mem_cons_of_mem _ (gIn k_116 (by decide +kernel)))) (hts (.initialized "java/lang/Math") (List.mem_cons_of_mem _ (gIn k_5 (by decide +kernel)))) (hts (.code Lib.Math.min.name Lib.Math.min.code 2 (some .int)) (List.mem_cons_of_mem _ (gIn k_117 (by decide +kernel)))) (Nat.le_of_ble_eq_true rfl) (Nat.le_of_ble_eq_true rfl) (Nat.zero_le _) (Nat.zero_le _) d_Pk_lay_100 ?_
    refine g_iast hx hb hK.1 hP hD hS 23 0 (wFb_204 t a (gSt (gSt (gSt (gSt τ 206 q (nI j)) 207 q x) 201 j (x + ((gSt (gSt τ 206 q (nI j)) 207 q x) 300 q))) 203 j (((gSt (gSt (gSt τ 206 q (nI j)) 207 q x) 201 j (x + ((gSt (gSt τ 206 q (nI j)) 207 q x) 300 q))) 203 j) + ((gSt (gSt (gSt τ 206 q (nI j)) 207 q x) 201 j (x + ((gSt (gSt τ 206 q (nI j)) 207 q x) 300 q))) 303 q)))) rfl j (rfl) (by omega) (by decide) (w' := wFb t a (gSt (gSt (gSt (gSt (gSt τ 206 q (nI j)) 207 q x) 201 j (x + ((gSt (gSt τ 206 q (nI j)) 207 q x) 300 q))) 203 j (((gSt (gSt (gSt τ 206 q (nI j)) 207 q x) 201 j (x + ((gSt (gSt τ 206 q (nI j)) 207 q x) 300 q))) 203 j) + ((gSt (gSt (gSt τ 206 q (nI j)) 207 q x) 201 j (x + ((gSt (gSt τ 206 q (nI j)) 207 q x) 300 q))) 303 q))) 204 j (if ((gSt (gSt (gSt (gSt τ 206 q (nI j)) 207 q x) 201 j (x + ((gSt (gSt τ 206 q (nI j)) 207 q x) 300 q))) 203 j (((gSt (gSt (gSt τ 206 q (nI j)) 207 q x) 201 j (x + ((gSt (gSt τ 206 q (nI j)) 207 q x) 300 q))) 203 j) + ((gSt (gSt (gSt τ 206 q (nI j)) 207 q x) 201 j (x + ((gSt (gSt τ 206 q (nI j)) 207 q x) 300 q))) 303 q))) 304 q) < ((gSt (gSt (gSt (gSt τ 206 q (nI j)) 207 q x) 201 j (x + ((gSt (gSt τ 206 q (nI j)) 207 q x) 300 q))) 203 j (((gSt (gSt (gSt τ 206 q (nI j)) 207 q x) 201 j (x + ((gSt (gSt τ 206 q (nI j)) 207 q x) 300 q))) 203 j) + ((gSt (gSt (gSt τ 206 q (nI j)) 207 q x) 201 j (x + ((gSt (gSt τ 206 q (nI j)) 207 q x) 300 q))) 303 q))) 204 j) then ((gSt (gSt (gSt (gSt τ 206 q (nI j)) 207 q x) 201 j (x + ((gSt (gSt τ 206 q (nI j)) 207 q x) 300 q))) 203 j (((gSt (gSt (gSt τ 206 q (nI j)) 207 q x) 201 j (x + ((gSt (gSt τ 206 q (nI j)) 207 q x) 300 q))) 203 j) + ((gSt (gSt (gSt τ 206 q (nI j)) 207 q x) 201 j (x + ((gSt (gSt τ 206 q (nI j)) 207 q x) 300 q))) 303 q))) 304 q) else ((gSt (gSt (gSt (gSt τ 206 q (nI j)) 207 q x) 201 j (x + ((gSt (gSt τ 206 q (nI j)) 207 q x) 300 q))) 203 j (((gSt (gSt (gSt τ 206 q (nI j)) 207 q x) 201 j (x + ((gSt (gSt τ 206 q (nI j)) 207 q x) 300 q))) 203 j) + ((gSt (gSt (gSt τ 206 q (nI j)) 207 q x) 201 j (x + ((gSt (gSt τ 206 q (nI j)) 207 q x) 300 q))) 303 q))) 204 j)))) (sFb_204 t a (gSt (gSt (gSt (gSt τ 206 q (nI j)) 207 q x) 201 j (x + ((gSt (gSt τ 206 q (nI j)) 207 q x) 300 q))) 203 j (((gSt (gSt (gSt τ 206 q (nI j)) 207 q x) 201 j (x + ((gSt (gSt τ 206 q (nI j)) 207 q x) 300 q))) 203 j) + ((gSt (gSt (gSt τ 206 q (nI j)) 207 q x) 201 j (x + ((gSt (gSt τ 206 q (nI j)) 207 q x) 300 q))) 303 q))) j (if ((gSt (gSt (gSt (gSt τ 206 q (nI j)) 207 q x) 201 j (x + ((gSt (gSt τ 206 q (nI j)) 207 q x) 300 q))) 203 j (((gSt (gSt (gSt τ 206 q (nI j)) 207 q x) 201 j (x + ((gSt (gSt τ 206 q (nI j)) 207 q x) 300 q))) 203 j) + ((gSt (gSt (gSt τ 206 q (nI j)) 207 q x) 201 j (x + ((gSt (gSt τ 206 q (nI j)) 207 q x) 300 q))) 303 q))) 304 q) < ((gSt (gSt (gSt (gSt τ 206 q (nI j)) 207 q x) 201 j (x + ((gSt (gSt τ 206 q (nI j)) 207 q x) 300 q))) 203 j (((gSt (gSt (gSt τ 206 q (nI j)) 207 q x) 201 j (x + ((gSt (gSt τ 206 q (nI j)) 207 q x) 300 q))) 203 j) + ((gSt (gSt (gSt τ 206 q (nI j)) 207 q x) 201 j (x + ((gSt (gSt τ 206 q (nI j)) 207 q x) 300 q))) 303 q))) 204 j) then ((gSt (gSt (gSt (gSt τ 206 q (nI j)) 207 q x) 201 j (x + ((gSt (gSt τ 206 q (nI j)) 207 q x) 300 q))) 203 j (((gSt (gSt (gSt τ 206 q (nI j)) 207 q x) 201 j (x + ((gSt (gSt τ 206 q (nI j)) 207 q x) 300 q))) 203 j) + ((gSt (gSt (gSt τ 206 q (nI j)) 207 q x) 201 j (x + ((gSt (gSt τ 206 q (nI j)) 207 q x) 300 q))) 303 q))) 304 q) else ((gSt (gSt (gSt (gSt τ 206 q (nI j)) 207 q x) 201 j (x + ((gSt (gSt τ 206 q (nI j)) 207 q x) 300 q))) 203 j (((gSt (gSt (gSt τ 206 q (nI j)) 207 q x) 201 j (x + ((gSt (gSt τ 206 q (nI j)) 207 q x) 300 q))) 203 j) + ((gSt (gSt (gSt τ 206 q (nI j)) 207 q x) 201 j (x + ((gSt (gSt τ 206 q (nI j)) 207 q x) 300 q))) 303 q))) 204 j))) d_Pk_lay_103 (fun H locs hP hD hS => ?_)
    exact cut_104 (gSt (gSt (gSt (gSt (gSt τ 206 q (nI j)) 207 q x) 201 j (x + ((gSt (gSt τ 206 q (nI j)) 207 q x) 300 q))) 203 j (((gSt (gSt (gSt τ 206 q (nI j)) 207 q x) 201 j (x + ((gSt (gSt τ 206 q (nI j)) 207 q x) 300 q))) 203 j) + ((gSt (gSt (gSt τ 206 q (nI j)) 207 q x) 201 j (x + ((gSt (gSt τ 206 q (nI j)) 207 q x) 300 q))) 303 q))) 204 j (if ((gSt (gSt (gSt (gSt τ 206 q (nI j)) 207 q x) 201 j (x + ((gSt (gSt τ 206 q (nI j)) 207 q x) 300 q))) 203 j (((gSt (gSt (gSt τ 206 q (nI j)) 207 q x) 201 j (x + ((gSt (gSt τ 206 q (nI j)) 207 q x) 300 q))) 203 j) + ((gSt (gSt (gSt τ 206 q (nI j)) 207 q x) 201 j (x + ((gSt (gSt τ 206 q (nI j)) 207 q x) 300 q))) 303 q))) 304 q) < ((gSt (gSt (gSt (gSt τ 206 q (nI j)) 207 q x) 201 j (x + ((gSt (gSt τ 206 q (nI j)) 207 q x) 300 q))) 203 j (((gSt (gSt (gSt τ 206 q (nI j)) 207 q x) 201 j (x + ((gSt (gSt τ 206 q (nI j)) 207 q x) 300 q))) 203 j) + ((gSt (gSt (gSt τ 206 q (nI j)) 207 q x) 201 j (x + ((gSt (gSt τ 206 q (nI j)) 207 q x) 300 q))) 303 q))) 204 j) then ((gSt (gSt (gSt (gSt τ 206 q (nI j)) 207 q x) 201 j (x + ((gSt (gSt τ 206 q (nI j)) 207 q x) 300 q))) 203 j (((gSt (gSt (gSt τ 206 q (nI j)) 207 q x) 201 j (x + ((gSt (gSt τ 206 q (nI j)) 207 q x) 300 q))) 203 j) + ((gSt (gSt (gSt τ 206 q (nI j)) 207 q x) 201 j (x + ((gSt (gSt τ 206 q (nI j)) 207 q x) 300 q))) 303 q))) 304 q) else ((gSt (gSt (gSt (gSt τ 206 q (nI j)) 207 q x) 201 j (x + ((gSt (gSt τ 206 q (nI j)) 207 q x) 300 q))) 203 j (((gSt (gSt (gSt τ 206 q (nI j)) 207 q x) 201 j (x + ((gSt (gSt τ 206 q (nI j)) 207 q x) 300 q))) 203 j) + ((gSt (gSt (gSt τ 206 q (nI j)) 207 q x) 201 j (x + ((gSt (gSt τ 206 q (nI j)) 207 q x) 300 q))) 303 q))) 204 j))) _ _ _ (by rw [hτ]; rfl) hP hD hS (lv_sub hl [0, 1, 2, 3] rfl)
  refine lv_iconst (v := 0) hx hb d_Pk_lay_0 (by decide) ?_
  refine lv_istore (lv' := [(4, .int 0), (0, .ref (a 299)), (1, .ref (a 399)), (2, .int (nI q)), (3, .int (nI j))]) hx hb d_Pk_lay_1 hl (by decide) rfl (fun ls hl => ?_)
  refine lv_iload_n hx hb d_Pk_lay_3 rfl (lv_at hl 4 rfl) ?_
  refine lv_aload_n hx hb d_Pk_lay_4 rfl (lv_at hl 1 rfl) ?_
  refine va_get (D := D) (ci := 2) (v := .int (σ 208 0)) (C := R_Pk) (T := F_Pk) (N := 9) hx hb hts (fun w h => List.mem_cons_of_mem _ (i_Pk w h)) hown hK.1 hP 3 (wFb_o2 t a σ) rfl 8 (by decide) (hts (.fieldLink R_Pk 70 "FlatBoxes$Packing" "layers" "I") (List.mem_cons_of_mem _ (gIn k_132 (by decide +kernel)))) (fun _ h9 => h9) rfl d_Pk_lay_5 ?_
  refine lv_topi (fun v_3 e_3 => ?_)
  obtain rfl : nI L = v_3 := (e_3.trans hL).symm
  refine lv_icmp_ne (tgt := 25) hx hb d_Pk_lay_8 (by decide) (fun c_4 => ?_) (fun c_4 => ?_)
  · 
    have h_4 : ¬ j = L := fun q9 => c_4 ((nI_eq (a := j) (b := L) (by omega) (by omega)).mpr q9)
    refine lv_aload_n hx hb d_Pk_lay_25 rfl (lv_at hl 1 rfl) ?_
    refine va_get (D := D) (ci := 2) (v := .ref (a 201)) (C := R_Pk) (T := F_Pk) (N := 9) hx hb hts (fun w h => List.mem_cons_of_mem _ (i_Pk w h)) hown hK.1 hP 3 (wFb_o2 t a σ) rfl 1 (by decide) (hts (.fieldLink R_Pk 9 "FlatBoxes$Packing" "end" "[I") (List.mem_cons_of_mem _ (gIn k_123 (by decide +kernel)))) (fun _ h9 => h9) rfl d_Pk_lay_26 ?_
    refine lv_iload_n hx hb d_Pk_lay_29 rfl (lv_at hl 4 rfl) ?_
    refine g_iald hx hb hK.1 hP 20 0 (wFb_201 t a σ) rfl j (rfl) (by omega) (by decide) d_Pk_lay_30 ?_
    refine lv_aload_n hx hb d_Pk_lay_31 rfl (lv_at hl 1 rfl) ?_
    refine va_get (D := D) (ci := 2) (v := .int (σ 200 0)) (C := R_Pk) (T := F_Pk) (N := 9) hx hb hts (fun w h => List.mem_cons_of_mem _ (i_Pk w h)) hown hK.1 hP 3 (wFb_o2 t a σ) rfl 0 (by decide) (hts (.fieldLink R_Pk 34 "FlatBoxes$Packing" "gap" "I") (List.mem_cons_of_mem _ (gIn k_122 (by decide +kernel)))) (fun _ h9 => h9) rfl d_Pk_lay_32 ?_
    refine lv_iadd hx hb d_Pk_lay_35 ?_
    refine lv_istore (lv' := [(4, .int ((σ 201 j) + (σ 200 0))), (0, .ref (a 299)), (1, .ref (a 399)), (2, .int (nI q)), (3, .int (nI j))]) hx hb d_Pk_lay_36 hl (by decide) rfl (fun ls hl => ?_)
    exact cut_38 ((σ 201 j) + (σ 200 0)) σ _ _ _ (by unfold fLay; rw [if_neg h_4]) hP hD hS (lv_sub hl [1, 2, 3, 4, 0] rfl)
  · 
    have h_4 : j = L := (nI_eq (a := j) (b := L) (by omega) (by omega)).mp c_4
    refine lv_aload_n hx hb d_Pk_lay_11 rfl (lv_at hl 1 rfl) ?_
    refine lv_iload_n hx hb d_Pk_lay_12 rfl (lv_at hl 4 rfl) ?_
    refine lv_aload_n hx hb d_Pk_lay_13 rfl (lv_at hl 2 rfl) ?_
    refine va_get (D := D) (ci := 3) (v := .ref (a 302)) (C := R_Pt) (T := F_Pt) (N := 9) hx hb hts (fun w h => List.mem_cons_of_mem _ (i_Pt w h)) hown hK.1 hP 2 (wFb_o3 t a σ) rfl 2 (by decide) (hts (.fieldLink R_Pk 91 "FlatBoxes$Parts" "thick" "[I") (List.mem_cons_of_mem _ (gIn k_73 (by decide +kernel)))) (fun _ h9 => h9) rfl d_Pk_lay_14 ?_
    refine lv_iload_n hx hb d_Pk_lay_17 rfl (lv_at hl 3 rfl) ?_
    refine g_iald hx hb hK.1 hP 14 0 (wFb_302 t a σ) rfl q (rfl) (by omega) (by decide) d_Pk_lay_18 ?_
    refine g_vv (k := 2) (As := [.int (nI j), .int (σ 302 q)]) (rest := []) (own := R_Pk) (C := R_Pk) (index := 92) ⟨hx, hb, hml, hown, hts⟩ (c_Pk_open l D t a σ j (σ 302 q) (by omega)) (gg_Pk_92 _) (by decide +kernel) ⟨Nat.le_of_ble_eq_true rfl, Nat.le_of_ble_eq_true rfl⟩ rfl (va_recv hK.1 hP (ci := 2) (q0 := 3) rfl (wFb_o2 t a σ)) hK hP hD hS hl.1 rfl (Nat.le_of_ble_eq_true rfl) ⟨Nat.zero_le _, Nat.zero_le _⟩ d_Pk_lay_19 (fun u_5 H locs q_5 hP hD hS => ?_)
    have hu_5 : u_5 = _ := q_5
    rw [hu_5] at hP hD
    refine lv_goto (tgt := 38) hx hb d_Pk_lay_22 (by decide) ?_
    exact cut_38 0 (fOpen σ j (σ 302 q)) _ _ _ (by unfold fLay; rw [if_pos h_4]) hP hD hS (lv_sub hl [1, 2, 3, 4, 0] rfl)
set_option maxHeartbeats 4000000 in
set_option maxRecDepth 100000 in
theorem c_Pk_pack (l : Launch) (D : va_G) (t : Nat → ClassId) (a : Nat → Nat) (σ : Nat → Nat → Int32) (set wide : Int32) (np : Nat) (hN : σ 308 0 = nI np) (hN8 : np ≤ 8) (bt : Nat → Nat) (hbt : ∀ k, k < np → σ 306 k = nI (bt k) ∧ bt k < 8) : gMv l D t y_Pk_pack b_Pk_pack 6 2 [.ref (a 299), .ref (a 399), .int set, .int wide] (wFb t a σ) (wFb t a) (fun u => u = fPk σ bt set wide np) := by
  intro A
  refine Met.ofW (cc := b_Pk_pack) (maxL := 6) (ret := none) (by decide) rfl ?_
  intro p e s m args below meth c s₁ B hml hv
  obtain ⟨rfl, hK, hP, hD⟩ := hv
  have hx := B.exec
  have hb := B.bytes
  have hr := B.returns
  have hts := atoms_spec (ws := .code y_Pk_pack b_Pk_pack 6 none :: gBig) B.pre
  have hown : s.vm.findClass R_Pk = some m.cls := findClass_of_methodNamed B.named
  have hlocks := B.notSynchronized
  have hS : va_S A s.heap s.heap [] := va_S.rf
  have hl := lv_entry ([.ref (a 299), .ref (a 399), .int set, .int wide]) (n := 6) (Nat.le_of_ble_eq_true rfl)
  rw [lg_entry_eq]
  generalize (lg_sl ([.ref (a 299), .ref (a 399), .int set, .int wide]) ++ List.replicate (6 - (lg_sl ([.ref (a 299), .ref (a 399), .int set, .int wide])).length) Slot.unset).toArray = ls at hl ⊢
  have hl : lv_has ls 6 [(0, .ref (a 299)), (1, .ref (a 399)), (2, .int set), (3, .int wide)] := hl
  show gGov l p e s m below meth c D t A 2 [.ref (a 299), .ref (a 399), .int set, .int wide] (wFb t a) (fun u => u = fPk σ bt set wide np) s.heap [] (F0 m 0 ls [])
  have cut_8 : ∀ (n : Nat) (k : Nat) (τ : Nat → Nat → Int32) (L : Nat) (H : Heap) (locs : List Loc) (ls : Array Slot), (k ≤ np) → (np + 1 ≤ k + n) → (fPk σ bt set wide k = τ) → (τ 208 0 = nI L) → (L ≤ k) → (∀ i, (i ≤ 200 ∨ 208 < i) → τ i = σ i) → va_P D gCl (wFb t a τ) H → va_D A (wFb t a τ) → va_S A s.heap H locs → lv_has ls 6 [(0, .ref (a 299)), (1, .ref (a 399)), (2, .int set), (3, .int wide), (4, .int (nI k))] → gGov l p e s m below meth c D t A 2 [.ref (a 299), .ref (a 399), .int set, .int wide] (wFb t a) (fun u => u = fPk σ bt set wide np) H locs (F0 m 8 ls []) := by
    intro n
    induction n with
    | zero =>
      intro k τ L H locs ls hk hf hs hL1 hLk hfix hP hD hS hl
      exact absurd hf (by omega)
    | succ n ih =>
      intro k τ L H locs ls hk hf hs hL1 hLk hfix hP hD hS hl
      refine lv_iload hx hb d_Pk_pack_8 (lv_at hl 4 rfl) ?_
      refine lv_aload_n hx hb d_Pk_pack_10 rfl (lv_at hl 1 rfl) ?_
      refine va_get (D := D) (ci := 3) (v := .int (τ 308 0)) (C := R_Pt) (T := F_Pt) (N := 9) hx hb hts (fun w h => List.mem_cons_of_mem _ (i_Pt w h)) hown hK.1 hP 2 (wFb_o3 t a τ) rfl 8 (by decide) (hts (.fieldLink R_Pk 73 "FlatBoxes$Parts" "count" "I") (List.mem_cons_of_mem _ (gIn k_87 (by decide +kernel)))) (fun _ h9 => h9) rfl d_Pk_pack_11 ?_
      refine lv_topi (fun v_1 e_1 => ?_)
      obtain rfl : nI np = v_1 := (e_1.trans ((congrFun (hfix 308 (by omega)) 0).trans hN)).symm
      refine lv_icmp_ge (tgt := 60) hx hb d_Pk_pack_14 (by decide) (fun c_2 => ?_) (fun c_2 => ?_)
      · 
        have h_2 : np ≤ k := (nI_leI (a := np) (b := k) (by omega) (by omega)).mp c_2
        exact W.vret hx hb hr (fun U hU hW => ⟨⟨τ, rfl, by obtain rfl : k = np := (by omega); exact hs.symm, by rw [hU]; exact hP, hD⟩, hS.F hU⟩) hS.2.2 d_Pk_pack_60
      · 
        have h_2 : ¬ np ≤ k := fun q9 => c_2 ((nI_leI (a := np) (b := k) (by omega) (by omega)).mpr q9)
        refine lv_aload_n hx hb d_Pk_pack_17 rfl (lv_at hl 1 rfl) ?_
        refine va_get (D := D) (ci := 3) (v := .ref (a 306)) (C := R_Pt) (T := F_Pt) (N := 9) hx hb hts (fun w h => List.mem_cons_of_mem _ (i_Pt w h)) hown hK.1 hP 2 (wFb_o3 t a τ) rfl 6 (by decide) (hts (.fieldLink R_Pk 76 "FlatBoxes$Parts" "byThickness" "[I") (List.mem_cons_of_mem _ (gIn k_82 (by decide +kernel)))) (fun _ h9 => h9) rfl d_Pk_pack_18 ?_
        refine lv_iload hx hb d_Pk_pack_21 (lv_at hl 4 rfl) ?_
        refine g_iald hx hb hK.1 hP 18 0 (wFb_306 t a τ) rfl k (rfl) (by omega) (by decide) d_Pk_pack_23 ?_
        refine lv_topi (fun v_3 e_3 => ?_)
        obtain rfl : nI (bt k) = v_3 := (e_3.trans ((congrFun (hfix 306 (by omega)) k).trans (hbt k (by omega)).1)).symm
        have hb8 := (hbt k (by omega)).2
        have hrl := fRm_le τ (bt k) wide L
        refine lv_istore (lv' := [(5, .int (nI (bt k))), (0, .ref (a 299)), (1, .ref (a 399)), (2, .int set), (3, .int wide), (4, .int (nI k))]) hx hb d_Pk_pack_24 hl (by decide) rfl (fun ls hl => ?_)
        refine lv_iload_n hx hb d_Pk_pack_26 rfl (lv_at hl 3 rfl) ?_
        refine lv_iload hx hb d_Pk_pack_27 (lv_at hl 0 rfl) ?_
        refine g_sn (k := 2) (As := [.int set, .int (nI (bt k))]) (rest := []) (own := R_Pk) (index := 79) (host := "FlatBoxes") ⟨hx, hb, hml, hown, hts⟩ (c_Fb_isIn l D t a τ set (nI (bt k))) (by decide +kernel) (gIn k_289 (by decide +kernel)) (gIn k_1 (by decide +kernel)) (gIn k_290 (by decide +kernel)) (by decide +kernel) ⟨Nat.le_of_ble_eq_true rfl, Nat.le_of_ble_eq_true rfl⟩ rfl hK hP hD hS hl.1 rfl (Nat.le_of_ble_eq_true rfl) ⟨Nat.zero_le _, Nat.zero_le _⟩ d_Pk_pack_29 (fun r_4 u_4 H locs q_4 hP hD hS => ?_)
        obtain ⟨rfl, hu_4⟩ := q_4
        rw [hu_4] at hP hD
        refine lv_if_eq (tgt := 54) hx hb d_Pk_pack_32 (by decide) (fun c_5 => ?_) (fun c_5 => ?_)
        · 
          refine lv_iinc (v := nI (k + 1)) (lv' := [(4, .int (nI (k + 1))), (5, .int (nI (bt k))), (0, .ref (a 299)), (1, .ref (a 399)), (2, .int set), (3, .int wide)]) hx hb d_Pk_pack_54 hl (k := 5) rfl (nI_1 k) (by decide) rfl (fun ls hl => ?_)
          refine lv_goto (tgt := 8) hx hb d_Pk_pack_57 (by decide) ?_
          exact ih (k + 1) τ L _ _ _ (by omega) (by omega) (by first | (simp [fPk, hs, c_2, h_2, c_5]; done) | (simp [fPk, hs, fLn, hL1, nI_clamp (show L < 2 ^ 31 by omega), c_2, h_2, c_5]; done)) (by first | exact hL1 | exact fLay_L hL1) (by first | omega | (have := fNewL_le τ (bt k) wide L; omega)) (by first | exact hfix | exact fun i hi => (fLay_fix _ _ _ _ hi).trans (hfix i hi)) hP hD hS (lv_sub hl [2, 3, 4, 5, 0] rfl)
        · 
          refine lv_aload_n hx hb d_Pk_pack_35 rfl (lv_at hl 1 rfl) ?_
          refine lv_aload_n hx hb d_Pk_pack_36 rfl (lv_at hl 2 rfl) ?_
          refine lv_iload hx hb d_Pk_pack_37 (lv_at hl 0 rfl) ?_
          refine lv_aload_n hx hb d_Pk_pack_39 rfl (lv_at hl 1 rfl) ?_
          refine lv_aload_n hx hb d_Pk_pack_40 rfl (lv_at hl 2 rfl) ?_
          refine va_get (D := D) (ci := 3) (v := .ref (a 300)) (C := R_Pt) (T := F_Pt) (N := 9) hx hb hts (fun w h => List.mem_cons_of_mem _ (i_Pt w h)) hown hK.1 hP 2 (wFb_o3 t a τ) rfl 0 (by decide) (hts (.fieldLink R_Pk 83 "FlatBoxes$Parts" "width" "[I") (List.mem_cons_of_mem _ (gIn k_70 (by decide +kernel)))) (fun _ h9 => h9) rfl d_Pk_pack_41 ?_
          refine lv_iload hx hb d_Pk_pack_44 (lv_at hl 0 rfl) ?_
          refine g_iald hx hb hK.1 hP 12 0 (wFb_300 t a τ) rfl (bt k) (rfl) (by omega) (by decide) d_Pk_pack_46 ?_
          refine lv_iload_n hx hb d_Pk_pack_47 rfl (lv_at hl 4 rfl) ?_
          refine g_vi (k := 2) (As := [.int (τ 300 (bt k)), .int wide]) (rest := [.int (nI (bt k)), .ref (a 399), .ref (a 299)]) (own := R_Pk) (C := R_Pk) (index := 84) ⟨hx, hb, hml, hown, hts⟩ (c_Pk_firstWithRoom l D t a τ (τ 300 (bt k)) wide L hL1 (by omega)) (gg_Pk_84 _) (by decide +kernel) ⟨Nat.le_of_ble_eq_true rfl, Nat.le_of_ble_eq_true rfl⟩ rfl (va_recv hK.1 hP (ci := 2) (q0 := 3) rfl (wFb_o2 t a τ)) hK hP hD hS hl.1 rfl (Nat.le_of_ble_eq_true rfl) ⟨Nat.zero_le _, Nat.zero_le _⟩ d_Pk_pack_48 (fun r_6 u_6 H locs q_6 hP hD hS => ?_)
          obtain ⟨rfl, hu_6⟩ := q_6
          rw [hu_6] at hP hD
          refine g_vv (k := 3) (As := [.ref (a 399), .int (nI (bt k)), .int (nI (fRm τ (bt k) wide L))]) (rest := []) (own := R_Pk) (C := R_Pk) (index := 88) ⟨hx, hb, hml, hown, hts⟩ (c_Pk_lay l D t a τ (bt k) (fRm τ (bt k) wide L) (by omega) (by omega) L hL1 (by omega)) (gg_Pk_88 _) (by decide +kernel) ⟨Nat.le_of_ble_eq_true rfl, Nat.le_of_ble_eq_true rfl⟩ rfl (va_recv hK.1 hP (ci := 2) (q0 := 3) rfl (wFb_o2 t a τ)) hK hP hD hS hl.1 rfl (Nat.le_of_ble_eq_true rfl) ⟨Nat.zero_le _, Nat.zero_le _⟩ d_Pk_pack_51 (fun u_7 H locs q_7 hP hD hS => ?_)
          have hu_7 : u_7 = _ := q_7
          rw [hu_7] at hP hD
          refine lv_iinc (v := nI (k + 1)) (lv' := [(4, .int (nI (k + 1))), (5, .int (nI (bt k))), (0, .ref (a 299)), (1, .ref (a 399)), (2, .int set), (3, .int wide)]) hx hb d_Pk_pack_54 hl (k := 5) rfl (nI_1 k) (by decide) rfl (fun ls hl => ?_)
          refine lv_goto (tgt := 8) hx hb d_Pk_pack_57 (by decide) ?_
          exact ih (k + 1) (fLay τ (bt k) (fRm τ (bt k) wide L) L) (fNewL τ (bt k) wide L) _ _ _ (by omega) (by omega) (by first | (simp [fPk, hs, c_2, h_2, c_5]; done) | (simp [fPk, hs, fLn, hL1, nI_clamp (show L < 2 ^ 31 by omega), c_2, h_2, c_5]; done)) (by first | exact hL1 | exact fLay_L hL1) (by first | omega | (have := fNewL_le τ (bt k) wide L; omega)) (by first | exact hfix | exact fun i hi => (fLay_fix _ _ _ _ hi).trans (hfix i hi)) hP hD hS (lv_sub hl [2, 3, 4, 5, 0] rfl)
  refine lv_aload_n hx hb d_Pk_pack_0 rfl (lv_at hl 0 rfl) ?_
  refine lv_iconst (v := 0) hx hb d_Pk_pack_1 (by decide) ?_
  refine va_put (D := D) (ci := 2) (v := .int 0) (ty := .int) (C := R_Pk) (T := F_Pk) (N := 9) hx hb hts (fun w h => List.mem_cons_of_mem _ (i_Pk w h)) t_Pk t_Pk_ok n_Pk hown hK.1 hP hD hS 3 (wFb_o2 t a σ) rfl 8 (by decide) (hts (.fieldLink R_Pk 70 "FlatBoxes$Packing" "layers" "I") (List.mem_cons_of_mem _ (gIn k_132 (by decide +kernel)))) (fun _ h9 => h9) rfl (by decide +kernel) rfl rfl (Nat.le_of_ble_eq_true rfl) d_Pk_pack_2 (fun H locs hP hD hS => ?_)
  have hP : va_P D gCl (wFb t a (gSt σ 208 0 0)) H := hP
  have hD : va_D A (wFb t a (gSt σ 208 0 0)) := hD
  refine lv_iconst (v := 0) hx hb d_Pk_pack_5 (by decide) ?_
  refine lv_istore (lv' := [(4, .int 0), (0, .ref (a 299)), (1, .ref (a 399)), (2, .int set), (3, .int wide)]) hx hb d_Pk_pack_6 hl (by decide) rfl (fun ls hl => ?_)
  exact cut_8 (np + 1) 0 (gSt σ 208 0 0) 0 _ _ _ (by omega) (by omega) (rfl) (rfl) (by omega) (fun i hi => gSt_ne _ _ _ _ (by omega)) hP hD hS (lv_sub hl [1, 2, 3, 4, 0] rfl)
