section
/-! pure part 9: every call of the face -/
theorem u_plc {v : Int32} {n : Nat} (h : n ≤ 1000) : fPlc v (nI n) = mIn v 0 (nI n - 1) := by
  unfold fPlc mIn
  by_cases c : v < 0
  · rw [if_pos c, if_pos c]
  · rw [if_neg c, if_neg c]
    have e : (nI n - 1).toInt = (n : Int) - 1 := by
      cases n with
      | zero => rfl
      | succ n => rw [nI_pred, nI_toInt (by omega)]; omega
    have e2 : (nI n).toInt = (n : Int) := nI_toInt (by omega)
    by_cases c2 : nI n ≤ v
    · rw [if_pos c2, if_pos (by rw [Int32.le_iff_toInt_le] at c2; rw [Int32.lt_iff_toInt_lt]; omega)]
    · rw [if_neg c2, if_neg (by rw [Int32.le_iff_toInt_le] at c2; rw [Int32.lt_iff_toInt_lt]; omega)]
theorem u_plcn {v : Int32} {n : Nat} (h : n ≤ 1000) (hv : ¬ fPlc v (nI n) = 0) : ∃ j : Nat, j < n ∧ v = nI j := mIn_nat h (by rw [← u_plc h]; exact hv)
theorem u_plc4 (v : Int32) : fPlc v 4 = mIn v 0 3 := u_plc (n := 4) (by omega)
theorem u_plc5 (v : Int32) : fPlc v 5 = mIn v 0 4 := u_plc (n := 5) (by omega)
theorem u_in1 {v : Int32} {n : Nat} (hn : n < 2 ^ 31) (hv : ¬ mIn v 1 (nI n) = 0) : ∃ j : Nat, 1 ≤ j ∧ j ≤ n ∧ v = nI j := by
  unfold mIn at hv
  by_cases c : v < 1
  · rw [if_pos c] at hv; exact absurd rfl hv
  · rw [if_neg c] at hv
    by_cases c2 : nI n < v
    · rw [if_pos c2] at hv; exact absurd rfl hv
    · rw [Int32.lt_iff_toInt_lt] at c
      have c : ¬ v.toInt < 1 := c
      obtain ⟨j, hj, e⟩ := nI_of (x := v) (by rw [Int32.lt_iff_toInt_lt]; show ¬ v.toInt < 0; omega)
      subst e
      rw [nI_ltI hn hj] at c2
      rw [nI_toInt hj] at c
      exact ⟨j, by omega, by omega, rfl⟩
theorem u_all {w d h c g gm s0 sm : Int32} : mAll w d h c g gm s0 sm = 0 ↔ (fSides w d h = 0 ∨ mIn c 1 gm = 0 ∨ mIn g s0 sm = 0) := by
  unfold mAll fSides mSide
  by_cases a1 : mIn w 1 100 = 0 <;> by_cases a2 : mIn d 1 100 = 0 <;> by_cases a3 : mIn h 1 100 = 0 <;> by_cases a4 : mIn c 1 gm = 0 <;> by_cases a5 : mIn g s0 sm = 0 <;> simp [a1, a2, a3, a4, a5]
section OPS
variable {C M : Nat → Nat → Int32} {nc np nb : Nat} {bt bs kc : Nat → Nat}
theorem q_carton (H : rAll C M nc np nb bt bs kc) (w d h c g : Int32) :
    ((fSides w d h = 0 ∨ mIn c 1 100000 = 0 ∨ mIn g 1 100000 = 0) ∧ mCartonU M nc w d h c g 0 0 = 1 ∧ Rel C (mCartonU M nc w d h c g)) ∨
    (¬ fSides w d h = 0 ∧ ¬ mIn c 1 100000 = 0 ∧ ¬ mIn g 1 100000 = 0 ∧ nc = 4 ∧ mCartonU M nc w d h c g 0 0 = 2 ∧ Rel C (mCartonU M nc w d h c g)) ∨
    (¬ fSides w d h = 0 ∧ ¬ mIn c 1 100000 = 0 ∧ ¬ mIn g 1 100000 = 0 ∧ nc < 4 ∧ mCartonU M nc w d h c g 0 0 = 0 ∧ mCartonR nc w d h c g = nI nc ∧ Rel (fCartU (fForg C) nc w d h c g) (mCartonU M nc w d h c g)) := by
  by_cases a : mAll w d h c g 100000 1 100000 = 0
  · have e : mCartonC nc w d h c g = 1 := by unfold mCartonC; rw [if_pos a]
    have eU : mCartonU M nc w d h c g = gSt M 0 0 1 := by unfold mCartonU; rw [e]; rw [if_neg (by decide)]
    rw [eU]
    exact Or.inl ⟨u_all.mp a, by simp [gS], ⟨nc, np, nb, bt, bs, kc, H.m0 1⟩⟩
  · have a' := fun z => a (u_all.mpr z)
    have a1 : ¬ fSides w d h = 0 := fun z => a' (Or.inl z)
    have a2 : ¬ mIn c 1 100000 = 0 := fun z => a' (Or.inr (Or.inl z))
    have a3 : ¬ mIn g 1 100000 = 0 := fun z => a' (Or.inr (Or.inr z))
    by_cases b : nc = 4
    · have e : mCartonC nc w d h c g = 2 := by unfold mCartonC; rw [if_neg a, if_pos b]
      have eU : mCartonU M nc w d h c g = gSt M 0 0 2 := by unfold mCartonU; rw [e]; rw [if_neg (by decide)]
      rw [eU]
      exact Or.inr (Or.inl ⟨a1, a2, a3, b, by simp [gS], ⟨nc, np, nb, bt, bs, kc, H.m0 2⟩⟩)
    · have e : mCartonC nc w d h c g = 0 := by unfold mCartonC; rw [if_neg a, if_neg b]
      have h4 := H.d.nc4
      refine Or.inr (Or.inr ⟨a1, a2, a3, by omega, ?_, ?_, ?_⟩)
      · unfold mCartonU; rw [if_pos e]; simp [gS]
      · unfold mCartonR; rw [if_pos e]
      · obtain ⟨x, x1, x2, x3⟩ := u_in1 (n := 100000) (by omega) a2
        have eU : mCartonU M nc w d h c g = gSt (gSt (gSt (gSt (gSt (gSt (gSt (gSt M 0 0 0) 3 nc w) 4 nc d) 5 nc h) 6 nc c) 7 nc g) 2 0 (nI (nc + 1))) 24 0 0 := by unfold mCartonU; rw [if_pos e]
        rw [eU]
        have cE : fCartU (fForg C) nc w d h c g = gSt (gSt (gSt (gSt (gSt (gSt (gSt (gSt C 502 0 0) 503 0 (-1)) 100 nc w) 101 nc d) 102 nc h) 103 nc c) 104 nc g) 105 0 (nI (nc + 1)) := rfl
        rw [cE]
        obtain ⟨D, Bg, s, c5, m2, -⟩ := H
        refine ⟨nc + 1, np, nb, bt, bs, kc, ?_, Bg.mv ?_ ?_, ?_, ?_, ?_, Or.inl ?_⟩
        · obtain ⟨d1, d2, d3, d4, d5, d6, d7, d8, d9, d10, d11, d12, d13, d14, d15, d16, d17, d18, d19, d20, d21, d22, d23, d24, d25, d26⟩ := D
          have stp : ∀ (f k : Nat → Int32) (x : Int32), (∀ c, c < nc → f c = k c) → ∀ c, c < nc + 1 → (if c = nc then x else f c) = (if c = nc then x else k c) := fun f k x hh c hc => by
            by_cases z : c = nc
            · rw [if_pos z, if_pos z]
            · rw [if_neg z, if_neg z]; exact hh c (by omega)
          refine ⟨by omega, d2, by simp [gS], by simp [gS], ?_, ?_, ?_, ?_, ?_, ?_, ?_, ?_, ?_, ?_, ?_, ?_, ?_, ?_, ?_, ?_, ?_, ?_, ?_, ?_, ?_, ?_⟩
          · intro i hi; simp only [gS]; simpa using stp (C 100) (M 3) w d5 i hi
          · intro i hi; simp only [gS]; simpa using stp (C 101) (M 4) d d6 i hi
          · intro i hi; simp only [gS]; simpa using stp (C 102) (M 5) h d7 i hi
          · intro i hi; simp only [gS]; simpa using stp (C 103) (M 6) c d8 i hi
          · intro i hi; simp only [gS]; simpa using stp (C 104) (M 7) g d9 i hi
          · intro i hi
            by_cases z : i = nc
            · exact ⟨x, x1, x2, by simp [gS, z, x3]⟩
            · obtain ⟨y, y1, y2, y3⟩ := d10 i (by omega)
              exact ⟨y, y1, y2, by simp [gS, z, y3]⟩
          · simpa [gS] using d11
          · simpa [gS] using d12
          · intro q hq; simpa [gS] using d13 q hq
          · intro q hq; simpa [gS] using d14 q hq
          · intro q hq; simpa [gS] using d15 q hq
          · intro q hq; simpa [gS] using d16 q hq
          · intro q hq; simpa [gS] using d17 q hq
          · intro q hq; simpa [gS] using d18 q hq
          · intro q hq; simpa [gS] using d19 q hq
          · intro q hq; simpa [gS] using d20 q hq
          · intro q hq; simpa [gS] using d21 q hq
          · simpa [gS] using d22
          · intro q hq; simpa [gS] using d23 q hq
          · exact d24.congr (fun q hq => by simp [gS])
          · intro q hq; simpa [gS] using d25 q hq
          · exact d26.congr (fun q hq => by simp [gS])
        · intro i hi
          rw [gSt_ne _ _ _ _ (by omega), gSt_ne _ _ _ _ (by omega), gSt_ne _ _ _ _ (by omega), gSt_ne _ _ _ _ (by omega), gSt_ne _ _ _ _ (by omega), gSt_ne _ _ _ _ (by omega), gSt_ne _ _ _ _ (by omega), gSt_ne _ _ _ _ (by omega)]
        · intro i hi
          rw [gSt_ne _ _ _ _ (by omega), gSt_ne _ _ _ _ (by omega), gSt_ne _ _ _ _ (by omega), gSt_ne _ _ _ _ (by omega), gSt_ne _ _ _ _ (by omega), gSt_ne _ _ _ _ (by omega), gSt_ne _ _ _ _ (by omega), gSt_ne _ _ _ _ (by omega)]
        · intro b hb; simpa [gS] using s b hb
        · intro b; simpa [gS] using c5 b
        · intro b; simpa [gS] using m2 b
        · exact ⟨by simp [gS], by simp [gS], by simp [gS]⟩
theorem q_fragile (H : rAll C M nc np nb bt bs kc) (pq on : Int32) (hon : on = 0 ∨ on = 1) :
    (fPlc pq (C 308 0) = 0 ∧ mFragU M np pq on 0 0 = 1 ∧ Rel C (mFragU M np pq on)) ∨
    (∃ q, q < np ∧ pq = nI q ∧ mFragU M np pq on 0 0 = 0 ∧ mFragR M np pq on = fFragR C q on ∧ Rel (fFragU C q on) (mFragU M np pq on)) := by
  have h8 := H.d.np8
  rw [H.d.pN, u_plc (by omega)]
  by_cases a : mIn pq 0 (nI np - 1) = 0
  · have e : mFragC np pq = 1 := by unfold mFragC; rw [if_pos a]
    have eU : mFragU M np pq on = gSt M 0 0 1 := by unfold mFragU; rw [e]; rw [if_neg (by decide)]
    rw [eU]
    exact Or.inl ⟨a, by simp [gS], ⟨nc, np, nb, bt, bs, kc, H.m0 1⟩⟩
  · obtain ⟨q, hq, rfl⟩ := mIn_nat (by omega) a
    have e : mFragC np (nI q) = 0 := by unfold mFragC; rw [if_neg a]
    have ec : (nI q).toNatClampNeg = q := nI_clamp (by omega)
    refine Or.inr ⟨q, hq, rfl, ?_, ?_, ?_⟩
    · unfold mFragU; rw [if_pos e]; simp [gS]
    · unfold mFragR mFragN fFragR; rw [if_pos e, ec, H.d.pf q hq]
      by_cases z : M 14 q = on
      · rw [if_pos z, if_neg (by simpa using z)]
      · rw [if_neg z, if_pos z]
    · have eU : mFragU M np (nI q) on = gSt (gSt (gSt M 0 0 0) 14 q on) 24 0 (if M 24 0 = 0 then 0 else if mFragN M (nI q) on = 0 then 1 else 0) := by unfold mFragU; rw [if_pos e, ec]
      rw [eU]
      unfold fFragU mFragN
      rw [ec, H.d.pf q hq]
      by_cases z : M 14 q = on
      · rw [if_neg (by simpa using z), if_pos z, if_pos rfl]
        refine ⟨nc, np, nb, bt, bs, kc, H.mv (fun _ _ => rfl) H.c5 ?_ ?_⟩
        · intro i h1 h2 h3 h4
          have z24 : (if M 24 0 = 0 then (0 : Int32) else 1) = M 24 0 := by
            rcases H.h with ⟨-, -, k⟩ | ⟨-, -, ⟨-, k⟩ | ⟨_, _, _, k, -⟩⟩ <;> rw [k] <;> decide
          funext n
          simp only [gS]
          by_cases k1 : i = 24 ∧ n = 0
          · rw [if_pos k1, z24, k1.1, k1.2]
          · rw [if_neg k1]
            by_cases k2 : i = 14 ∧ n = q
            · rw [if_pos k2, k2.1, k2.2]; exact z.symm
            · rw [if_neg k2, if_neg (by omega)]
        · rw [gSt_ne _ _ _ _ (by omega), gSt_ne _ _ _ _ (by omega), gSt_ne _ _ _ _ (by omega)]; exact H.m2
      · have z24 : (if M 24 0 = 0 then (0 : Int32) else if (1 : Int32) = 0 then 1 else 0) = 0 := by
          split
          · rfl
          · decide
        rw [if_pos z, if_neg z, z24]
        have cE : gSt (fForg C) 305 q on = gSt (gSt (gSt C 502 0 0) 503 0 (-1)) 305 q on := rfl
        rw [cE]
        obtain ⟨D, Bg, s, c5, m2, -⟩ := H
        refine ⟨nc, np, nb, bt, bs, kc, ?_, Bg.mv ?_ ?_, ?_, ?_, ?_, Or.inl ?_⟩
        · obtain ⟨d1, d2, d3, d4, d5, d6, d7, d8, d9, d10, d11, d12, d13, d14, d15, d16, d17, d18, d19, d20, d21, d22, d23, d24, d25, d26⟩ := D
          refine ⟨d1, d2, by simpa [gS] using d3, by simpa [gS] using d4, ?_, ?_, ?_, ?_, ?_, ?_, ?_, ?_, ?_, ?_, ?_, ?_, ?_, ?_, ?_, ?_, ?_, ?_, ?_, ?_, ?_, ?_⟩
          · intro i hi; simpa [gS] using d5 i hi
          · intro i hi; simpa [gS] using d6 i hi
          · intro i hi; simpa [gS] using d7 i hi
          · intro i hi; simpa [gS] using d8 i hi
          · intro i hi; simpa [gS] using d9 i hi
          · intro i hi; simpa [gS] using d10 i hi
          · simpa [gS] using d11
          · simpa [gS] using d12
          · intro i hi; simpa [gS] using d13 i hi
          · intro i hi; simpa [gS] using d14 i hi
          · intro i hi; simpa [gS] using d15 i hi
          · intro i hi; simpa [gS] using d16 i hi
          · intro i hi; simpa [gS] using d17 i hi
          · intro i hi
            simp only [gS]
            by_cases k : i = q
            · simp [k]
            · simpa [k] using d18 i hi
          · intro i hi; simpa [gS] using d19 i hi
          · intro i hi
            simp only [gS]
            by_cases k : i = q
            · simpa [k] using hon
            · simpa [k] using d20 i hi
          · intro i hi
            simp only [gS]
            simpa [show i ≠ q by omega] using d21 i hi
          · simpa [gS] using d22
          · intro i hi; simpa [gS] using d23 i hi
          · exact d24.congr (fun q hq => by simp [gS])
          · intro i hi; simpa [gS] using d25 i hi
          · exact d26.congr (fun q hq => by simp [gS])
        · intro i hi
          rw [gSt_ne _ _ _ _ (by omega), gSt_ne _ _ _ _ (by omega), gSt_ne _ _ _ _ (by omega)]
        · intro i hi
          rw [gSt_ne _ _ _ _ (by omega), gSt_ne _ _ _ _ (by omega), gSt_ne _ _ _ _ (by omega)]
        · intro b hb; simpa [gS] using s b hb
        · intro b; simpa [gS] using c5 b
        · intro b; simpa [gS] using m2 b
        · exact ⟨by simp [gS], by simp [gS], by simp [gS]⟩
theorem q_fits (H : rAll C M nc np nb bt bs kc) (cv set : Int32) :
    (fPlc cv (C 105 0) = 0 ∧ mFitsU M bt nc np cv set 0 0 = 1 ∧ Rel C (mFitsU M bt nc np cv set)) ∨
    (¬ fPlc cv (C 105 0) = 0 ∧ mIn set 1 (((1 : Int32) <<< (nI np &&& 31)) - 1) = 0 ∧ mFitsU M bt nc np cv set 0 0 = 2 ∧ Rel C (mFitsU M bt nc np cv set)) ∨
    (∃ c, c < nc ∧ cv = nI c ∧ ¬ mIn set 1 (((1 : Int32) <<< (nI np &&& 31)) - 1) = 0 ∧ mFitsU M bt nc np cv set 0 0 = 0 ∧ mFitsR M bt nc np cv set = fHeldR C bt set c np ∧ Rel (fHeldU C bt set c np) (mFitsU M bt nc np cv set)) := by
  have h8 := H.d.np8
  have h4 := H.d.nc4
  rw [H.d.cN, u_plc (by omega)]
  by_cases a : mIn cv 0 (nI nc - 1) = 0
  · have e : mFitsCode nc np cv set = 1 := by unfold mFitsCode; rw [if_pos a]
    have eU : mFitsU M bt nc np cv set = gSt M 0 0 1 := by unfold mFitsU; rw [e]; rw [if_neg (by decide)]
    rw [eU]
    exact Or.inl ⟨a, by simp [gS], ⟨nc, np, nb, bt, bs, kc, H.m0 1⟩⟩
  · obtain ⟨c, hc, rfl⟩ := mIn_nat (by omega) a
    have h28 := p28 h8
    have hpos : 0 < 2 ^ np := Nat.pow_pos (by decide)
    have e0 : (mIn set 1 (((1 : Int32) <<< (nI np &&& 31)) - 1) = 0) ↔ mFitsCode nc np (nI c) set = 2 := by
      unfold mFitsCode mIn
      rw [u_shl np h8]
      have e1 : nI (2 ^ np) - 1 = nI (2 ^ np - 1) := by
        obtain ⟨k, hk⟩ : ∃ k, 2 ^ np = k + 1 := ⟨2 ^ np - 1, by omega⟩
        rw [hk, nI_pred]; rfl
      rw [e1]
      have e2 := nI_toInt (n := 2 ^ np) (by omega)
      have e3 := nI_toInt (n := 2 ^ np - 1) (by omega)
      have a0 : ¬ (if nI c < 0 then (0 : Int32) else if nI nc - 1 < nI c then 0 else 1) = 0 := a
      rw [if_neg a0]
      by_cases k1 : set < 1
      · rw [if_pos k1, if_pos k1]; exact ⟨fun _ => rfl, fun _ => rfl⟩
      · rw [if_neg k1, if_neg k1]
        by_cases k2 : set < nI (2 ^ np)
        · rw [if_pos k2, if_neg (by rw [Int32.lt_iff_toInt_lt] at k2 ⊢; omega)]
          exact ⟨fun z => absurd z (by decide), fun z => absurd z (by decide)⟩
        · rw [if_neg k2, if_pos (by rw [Int32.lt_iff_toInt_lt] at k2 ⊢; omega)]
          exact ⟨fun _ => rfl, fun _ => rfl⟩
    by_cases b : mIn set 1 (((1 : Int32) <<< (nI np &&& 31)) - 1) = 0
    · have e := e0.mp b
      have eU : mFitsU M bt nc np (nI c) set = gSt M 0 0 2 := by unfold mFitsU; rw [e]; rw [if_neg (by decide)]
      rw [eU]
      exact Or.inr (Or.inl ⟨a, b, by simp [gS], ⟨nc, np, nb, bt, bs, kc, H.m0 2⟩⟩)
    · have e : mFitsCode nc np (nI c) set = 0 := by
        have : ¬ mFitsCode nc np (nI c) set = 2 := fun z => b (e0.mpr z)
        unfold mFitsCode at this ⊢
        rw [if_neg a] at this ⊢
        split at this
        · exact absurd rfl this
        · split at this
          · next k1 k2 => rw [if_neg k1, if_pos k2]
          · exact absurd rfl this
      have ec : (nI c).toNatClampNeg = c := nI_clamp (by omega)
      have eU : mFitsU M bt nc np (nI c) set = (mPk (gSt M 0 0 0) bt set c np).1 := by unfold mFitsU mFitsX; rw [if_pos e, ec]
      have eR : mFitsR M bt nc np (nI c) set = mPackR (mPk (gSt M 0 0 0) bt set c np) c := by unfold mFitsR mFitsX; rw [if_pos e, ec]
      rw [eU, eR, ← (H.m0 0).d.held set hc]
      refine Or.inr (Or.inr ⟨c, hc, rfl, b, ?_, rfl, nc, np, nb, bt, bs, kc, (H.m0 0).mv (fun i hi => fHeldU_fix _ _ _ _ _ hi) (fPk205U _ _ _ _ _ H.c5) (fun i _ h2 _ _ => mPk_fix _ _ _ _ h2 np) (mPk_22 _ _ _ _ (H.m0 0).m2 np)⟩)
      rw [mPk_fix _ _ _ _ (i := 0) (Or.inl (by omega)) np]; simp [gS]
theorem q_manual (H : rAll C M nc np nb bt bs kc) (kv : Int32) :
    (fPlc kv (C 308 0) = 0 ∧ mManC np kv = 1) ∨ (∃ k, k < np ∧ kv = nI k ∧ mManC np kv = 0 ∧ mManR M np kv = C 307 k) := by
  have h8 := H.d.np8
  rw [H.d.pN, u_plc (by omega)]
  by_cases a : mIn kv 0 (nI np - 1) = 0
  · exact Or.inl ⟨a, by unfold mManC; rw [if_pos a]⟩
  · obtain ⟨k, hk, rfl⟩ := mIn_nat (by omega) a
    have e : mManC np (nI k) = 0 := by unfold mManC; rw [if_neg a]
    refine Or.inr ⟨k, hk, rfl, e, ?_⟩
    unfold mManR
    rw [if_pos e, mMan_o H.d.os h8 hk np 0 (by omega) (by omega), H.d.hs k hk]
theorem q_bag (H : rAll C M nc np nb bt bs kc) :
    (nb = 4 ∧ mBagU M nb 0 0 = 1 ∧ Rel C (mBagU M nb)) ∨ (nb < 4 ∧ mBagU M nb 0 0 = 0 ∧ mBagR nb = nI nb ∧ Rel (gSt C 6 0 (nI (nb + 1))) (mBagU M nb)) := by
  have h4 := H.b.nb4
  by_cases a : nb = 4
  · have eU : mBagU M nb = gSt M 0 0 1 := by unfold mBagU; rw [if_pos a]
    rw [eU]
    exact Or.inl ⟨a, by simp [gS], ⟨nc, np, nb, bt, bs, kc, H.m0 1⟩⟩
  · have eU : mBagU M nb = gSt (gSt M 0 0 0) 29 0 (nI (nb + 1)) := by unfold mBagU; rw [if_neg a]
    rw [eU]
    refine Or.inr ⟨by omega, by simp [gS], by unfold mBagR; rw [if_neg a], nc, np, nb + 1, bt, bs, kc, ?_⟩
    obtain ⟨D, Bg, s, c5, m2, hh⟩ := H
    have e1 : ∀ i, i ≠ 6 → gSt C 6 0 (nI (nb + 1)) i = C i := fun i hi => gSt_ne _ _ _ _ hi
    have e2 : ∀ i, i ≠ 0 → i ≠ 29 → gSt (gSt M 0 0 0) 29 0 (nI (nb + 1)) i = M i := fun i h1 h2 => by rw [gSt_ne _ _ _ _ h2, gSt_ne _ _ _ _ h1]
    refine ⟨D.mv (fun i hi => e1 i (by rcases hi with z | z | z <;> omega)) (fun i h1 h2 => e2 i (by omega) (by omega)), ?_, fun b hb => by rw [e1 402 (by omega)]; exact s b hb, by rw [e1 205 (by omega)]; exact c5, by rw [e2 22 (by omega) (by omega)]; exact m2, ?_⟩
    · obtain ⟨a0, a1, a2, a3, a4, a5, a6, a7, a8, a9, a10⟩ := Bg
      have e31 := e2 31 (by omega) (by omega)
      have e32 := e2 32 (by omega) (by omega)
      have e33 := e2 33 (by omega) (by omega)
      refine ⟨by omega, by simp [gS], by simp [gS], a3, fun b hb => by rw [e1 5 (by omega)]; exact a4 b hb, fun b hb => by rw [e2 30 (by omega) (by omega)]; exact a5 b hb, fun b hb k hk => by rw [e1 _ (by omega), e31]; exact a6 b hb k hk, fun b hb k hk => by rw [e1 _ (by omega), e32]; exact a7 b hb k hk, fun b hb k hk => by rw [e1 _ (by omega), e33]; exact a8 b hb k hk, fun b hb => ?_, fun b hb => ?_⟩
      · rw [e1 3 (by omega), a9 b hb]; exact mS1_congr _ (fun k _ => ⟨by rw [e31], by rw [e32]⟩)
      · rw [e1 4 (by omega), a10 b hb]; exact mS1_congr _ (fun k _ => ⟨by rw [e31], by rw [e33]⟩)
    · have q1 : ∀ i, rCi i → gSt C 6 0 (nI (nb + 1)) i = C i := fun i hi => e1 i (by rcases hi with z | z | z <;> omega)
      have q2 : gSt C 6 0 (nI (nb + 1)) 503 0 = C 503 0 := by rw [e1 503 (by omega)]
      have q4 : gSt C 6 0 (nI (nb + 1)) 504 0 = C 504 0 := by rw [e1 504 (by omega)]
      have q3 : ∀ i, 1000 ≤ i → i < 1200 → gSt C 6 0 (nI (nb + 1)) i = C i := fun i h1 h2 => e1 i (by omega)
      rcases hh with ⟨b1, b2, b3⟩ | ⟨b1, b2, b3⟩
      · exact Or.inl ⟨by rw [e1 502 (by omega)]; exact b1, by rw [q2]; exact b2, by rw [e2 24 (by omega) (by omega)]; exact b3⟩
      · refine Or.inr ⟨by rw [e1 502 (by omega)]; exact b1, b2.mv q1 q2 q4 q3, ?_⟩
        rcases b3 with ⟨c1, c2⟩ | ⟨nbx, r, cx, c1, c2⟩
        · exact Or.inl ⟨by rw [q2]; exact c1, by rw [e2 24 (by omega) (by omega)]; exact c2⟩
        · exact Or.inr ⟨nbx, r, cx, by rw [e2 24 (by omega) (by omega)]; exact c1, c2.mv D.np8 q1 q2 q4 q3 (e2 25 (by omega) (by omega)) (e2 26 (by omega) (by omega)) (e2 23 (by omega) (by omega))⟩
end OPS
end
