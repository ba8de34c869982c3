section
/-! pure part 10: part, into, counted, and the calls that ask for shares -/
section OPS
variable {C M : Nat → Nat → Int32} {nc np nb : Nat} {bt bs kc : Nat → Nat}
theorem q_part (H : rAll C M nc np nb bt bs kc) (w d h g st : Int32) :
    ((fSides w d h = 0 ∨ mIn g 1 50000 = 0 ∨ mIn st 0 50 = 0) ∧ mPartU M np w d h g st 0 0 = 1 ∧ Rel C (mPartU M np w d h g st)) ∨
    (¬ fSides w d h = 0 ∧ ¬ mIn g 1 50000 = 0 ∧ ¬ mIn st 0 50 = 0 ∧ np = 8 ∧ mPartU M np w d h g st 0 0 = 2 ∧ Rel C (mPartU M np w d h g st)) ∨
    (¬ fSides w d h = 0 ∧ ¬ mIn g 1 50000 = 0 ∧ ¬ mIn st 0 50 = 0 ∧ np < 8 ∧ mPartU M np w d h g st 0 0 = 0 ∧ mPartR np w d h g st = nI np ∧ Rel (fPartU (fForg C) np bt bs w d h g st) (mPartU M np w d h g st)) := by
  by_cases a : mAll w d h g st 50000 0 50 = 0
  · have e : mPartC np w d h g st = 1 := by unfold mPartC; rw [if_pos a]
    have eU : mPartU M np w d h g st = gSt M 0 0 1 := by unfold mPartU; rw [e]; rw [if_neg (by decide)]
    rw [eU]
    exact Or.inl ⟨u_all.mp a, by simp [gS], ⟨nc, np, nb, bt, bs, kc, H.m0 1⟩⟩
  · have a' := fun z => a (u_all.mpr z)
    have a1 : ¬ fSides w d h = 0 := fun z => a' (Or.inl z)
    have a2 : ¬ mIn g 1 50000 = 0 := fun z => a' (Or.inr (Or.inl z))
    have a3 : ¬ mIn st 0 50 = 0 := fun z => a' (Or.inr (Or.inr z))
    by_cases b : np = 8
    · have e : mPartC np w d h g st = 2 := by unfold mPartC; rw [if_neg a, if_pos b]
      have eU : mPartU M np w d h g st = gSt M 0 0 2 := by unfold mPartU; rw [e]; rw [if_neg (by decide)]
      rw [eU]
      exact Or.inr (Or.inl ⟨a1, a2, a3, b, by simp [gS], ⟨nc, np, nb, bt, bs, kc, H.m0 2⟩⟩)
    · have e : mPartC np w d h g st = 0 := by unfold mPartC; rw [if_neg a, if_neg b]
      have h8 := H.d.np8
      refine Or.inr (Or.inr ⟨a1, a2, a3, by omega, ?_, ?_, ?_⟩)
      · unfold mPartU; rw [if_pos e]; simp [gS]
      · unfold mPartR; rw [if_pos e]
      · have hst : st ≤ 50 := by
          unfold mIn at a3
          by_cases k : st < 0
          · rw [if_pos k] at a3; exact absurd rfl a3
          · rw [if_neg k] at a3
            by_cases k2 : 50 < st
            · rw [if_pos k2] at a3; exact absurd rfl a3
            · rw [Int32.lt_iff_toInt_lt] at k2; rw [Int32.le_iff_toInt_le]; omega
        have eU : mPartU M np w d h g st = gSt (gSt (gSt (gSt (gSt (gSt (gSt (gSt (gSt M 0 0 0) 9 np w) 10 np d) 11 np h) 12 np g) 13 np st) 14 np 0) 8 0 (nI (np + 1))) 24 0 0 := by unfold mPartU; rw [if_pos e]
        rw [eU]
        have hP : ∃ P, P = fPut5 (fForg C) np w d h g st := ⟨_, rfl⟩
        obtain ⟨P, eP⟩ := hP
        have eC : fPartU (fForg C) np bt bs w d h g st = gSt (fSrt 307 np bs (fGo2 (fSrt 306 np bt (fGo1 P bt np) np P) bs np) np (fSrt 306 np bt (fGo1 P bt np) np P)) 308 0 (nI (np + 1)) := by rw [eP]; rfl
        rw [eC]
        obtain ⟨D, Bg, s, c5, m2, -⟩ := H
        have pE : ∀ i n, P i n = gSt (gSt (gSt (gSt (gSt (gSt (gSt C 502 0 0) 503 0 (-1)) 300 np w) 301 np d) 302 np h) 303 np g) 304 np st i n := fun i n => by rw [eP]; rfl
        have sP : ∀ i, i ≠ 306 → i ≠ 307 → i ≠ 308 → gSt (fSrt 307 np bs (fGo2 (fSrt 306 np bt (fGo1 P bt np) np P) bs np) np (fSrt 306 np bt (fGo1 P bt np) np P)) 308 0 (nI (np + 1)) i = P i := fun i h1 h2 h3 => by
          rw [gSt_ne _ _ _ _ h3, fSrt_fix _ _ _ _ h2, fSrt_fix _ _ _ _ h1]
        have s6 : gSt (fSrt 307 np bs (fGo2 (fSrt 306 np bt (fGo1 P bt np) np P) bs np) np (fSrt 306 np bt (fGo1 P bt np) np P)) 308 0 (nI (np + 1)) 306 = fSrt 306 np bt (fGo1 P bt np) np P 306 := by
          rw [gSt_ne _ _ _ _ (by omega), fSrt_fix _ _ _ _ (by omega)]
        have s7 : gSt (fSrt 307 np bs (fGo2 (fSrt 306 np bt (fGo1 P bt np) np P) bs np) np (fSrt 306 np bt (fGo1 P bt np) np P)) 308 0 (nI (np + 1)) 307 = fSrt 307 np bs (fGo2 (fSrt 306 np bt (fGo1 P bt np) np P) bs np) np (fSrt 306 np bt (fGo1 P bt np) np P) 307 := by
          rw [gSt_ne _ _ _ _ (by omega)]
        have t4 : fSrt 306 np bt (fGo1 P bt np) np P 304 = P 304 := fSrt_fix _ _ _ _ (by omega) _ _
        have t7 : fSrt 306 np bt (fGo1 P bt np) np P 307 = P 307 := fSrt_fix _ _ _ _ (by omega) _ _
        have t8 : gSt (fSrt 307 np bs (fGo2 (fSrt 306 np bt (fGo1 P bt np) np P) bs np) np (fSrt 306 np bt (fGo1 P bt np) np P)) 308 0 (nI (np + 1)) 308 0 = nI (np + 1) := by rw [gSt_eq, pk_us]
        have ggE1 : ∀ k, k < np → (fGo1 P bt np k = true ↔ -(h.toInt) < -((M 11 (bt k)).toInt)) := fun k hk => by
          have hlt := D.ob.lt k hk
          unfold fGo1
          have x1 : P 302 np = h := by rw [pE]; simp [gS]
          have x2 : P 302 (bt k) = M 11 (bt k) := by rw [pE, ← D.pt _ hlt]; simp [gS, show bt k ≠ np by omega]
          rw [x1, x2]
          by_cases k0 : h ≤ M 11 (bt k)
          · rw [Int32.le_iff_toInt_le] at k0
            simp [Int32.le_iff_toInt_le]
          · simp [Int32.le_iff_toInt_le]
        have ggE2 : ∀ k, k < np → (fGo2 (fSrt 306 np bt (fGo1 P bt np) np P) bs np k = true ↔ st.toInt < (M 13 (bs k)).toInt) := fun k hk => by
          have hlt := D.os.lt k hk
          unfold fGo2
          rw [t4]
          have x1 : P 304 np = st := by rw [pE]; simp [gS]
          have x2 : P 304 (bs k) = M 13 (bs k) := by rw [pE, ← D.ps _ hlt]; simp [gS, show bs k ≠ np by omega]
          rw [x1, x2]
          simp [Int32.le_iff_toInt_le]
        generalize gSt (fSrt 307 np bs (fGo2 (fSrt 306 np bt (fGo1 P bt np) np P) bs np) np (fSrt 306 np bt (fGo1 P bt np) np P)) 308 0 (nI (np + 1)) = C' at *
        refine ⟨nc, np + 1, nb, oIns bt np (oPl (fGo1 P bt np) np), oIns bs np (oPl (fGo2 (fSrt 306 np bt (fGo1 P bt np) np P) bs np) np), kc, ?_, Bg.mv ?_ ?_, ?_, ?_, ?_, Or.inl ?_⟩
        · obtain ⟨d1, d2, d3, d4, d5, d6, d7, d8, d9, d10, d11, d12, d13, d14, d15, d16, d17, d18, d19, d20, d21, d22, d23, d24, d25, d26⟩ := D
          have stp : ∀ (f k : Nat → Int32) (x : Int32), (∀ c, c < np → f c = k c) → ∀ c, c < np + 1 → (if c = np then x else f c) = (if c = np then x else k c) := fun f k x hh c hc => by
            by_cases z : c = np
            · rw [if_pos z, if_pos z]
            · rw [if_neg z, if_neg z]; exact hh c (by omega)
          refine ⟨d1, by omega, ?_, by simpa [gS] using d4, ?_, ?_, ?_, ?_, ?_, ?_, ?_, ?_, ?_, ?_, ?_, ?_, ?_, ?_, ?_, ?_, ?_, ?_, ?_, ?_, ?_, ?_⟩
          · rw [sP 105 (by omega) (by omega) (by omega), pE]; simpa [gS] using d3
          · intro i hi; rw [sP 100 (by omega) (by omega) (by omega), pE]; simpa [gS] using d5 i hi
          · intro i hi; rw [sP 101 (by omega) (by omega) (by omega), pE]; simpa [gS] using d6 i hi
          · intro i hi; rw [sP 102 (by omega) (by omega) (by omega), pE]; simpa [gS] using d7 i hi
          · intro i hi; rw [sP 103 (by omega) (by omega) (by omega), pE]; simpa [gS] using d8 i hi
          · intro i hi; rw [sP 104 (by omega) (by omega) (by omega), pE]; simpa [gS] using d9 i hi
          · intro i hi; simpa [gS] using d10 i hi
          · exact t8
          · simp [gS]
          · intro i hi; rw [sP 300 (by omega) (by omega) (by omega), pE]; simp only [gS]; simpa using stp (C 300) (M 9) w d13 i hi
          · intro i hi; rw [sP 301 (by omega) (by omega) (by omega), pE]; simp only [gS]; simpa using stp (C 301) (M 10) d d14 i hi
          · intro i hi; rw [sP 302 (by omega) (by omega) (by omega), pE]; simp only [gS]; simpa using stp (C 302) (M 11) h d15 i hi
          · intro i hi; rw [sP 303 (by omega) (by omega) (by omega), pE]; simp only [gS]; simpa using stp (C 303) (M 12) g d16 i hi
          · intro i hi; rw [sP 304 (by omega) (by omega) (by omega), pE]; simp only [gS]; simpa using stp (C 304) (M 13) st d17 i hi
          · intro i hi
            rw [sP 305 (by omega) (by omega) (by omega), pE]; simp only [gS]
            by_cases z : i = np
            · simpa [z] using d21 np (Nat.le_refl _)
            · simpa [z] using d18 i (by omega)
          · intro i hi
            simp only [gS]
            by_cases z : i = np
            · simpa [z] using hst
            · simpa [z] using d19 i (by omega)
          · intro i hi
            simp only [gS]
            by_cases z : i = np
            · simp [z]
            · simpa [z] using d20 i (by omega)
          · intro i hi
            rw [sP 305 (by omega) (by omega) (by omega), pE]; simpa [gS] using d21 i (by omega)
          · rw [sP 200 (by omega) (by omega) (by omega), pE]; simpa [gS] using d22
          · intro k hk
            rw [s6, fSrt_id]
            have hple := oPl_le (fGo1 P bt np) np
            unfold oIns
            by_cases z : k < oPl (fGo1 P bt np) np
            · rw [if_pos z, if_pos z, pE]; simpa [gS] using d23 k (by omega)
            · rw [if_neg z, if_neg z]
              by_cases z2 : k = oPl (fGo1 P bt np) np
              · rw [if_pos z2, if_pos z2]
              · rw [if_neg z2, if_neg z2, if_pos (by omega)]
          · refine oOrd.ins (d24.congr (fun q hq => by simp [gS, show q ≠ np by omega])) (by omega) (fun k hk => ?_)
            have hlt := d24.lt k hk
            rw [ggE1 k hk]
            simp [gS, show bt k ≠ np by omega]
          · intro k hk
            rw [s7, fSrt_id, t7]
            have hple := oPl_le (fGo2 (fSrt 306 np bt (fGo1 P bt np) np P) bs np) np
            unfold oIns
            by_cases z : k < oPl (fGo2 (fSrt 306 np bt (fGo1 P bt np) np P) bs np) np
            · rw [if_pos z, if_pos z, pE]; simpa [gS] using d25 k (by omega)
            · rw [if_neg z, if_neg z]
              by_cases z2 : k = oPl (fGo2 (fSrt 306 np bt (fGo1 P bt np) np P) bs np) np
              · rw [if_pos z2, if_pos z2]
              · rw [if_neg z2, if_neg z2, if_pos (by omega)]
          · refine oOrd.ins (d26.congr (fun q hq => by simp [gS, show q ≠ np by omega])) (by omega) (fun k hk => ?_)
            have hlt := d26.lt k hk
            rw [ggE2 k hk]
            simp [gS, show bs k ≠ np by omega]
        · intro i hi
          rw [sP i (by omega) (by omega) (by omega)]
          funext n
          rw [pE]
          simp only [gS]
          rw [if_neg (by omega), if_neg (by omega), if_neg (by omega), if_neg (by omega), if_neg (by omega), if_neg (by omega), if_neg (by omega)]
        · intro i hi
          rw [gSt_ne _ _ _ _ (by omega), gSt_ne _ _ _ _ (by omega), gSt_ne _ _ _ _ (by omega), gSt_ne _ _ _ _ (by omega), gSt_ne _ _ _ _ (by omega), gSt_ne _ _ _ _ (by omega), gSt_ne _ _ _ _ (by omega), gSt_ne _ _ _ _ (by omega), gSt_ne _ _ _ _ (by omega)]
        · intro b hb; rw [sP 402 (by omega) (by omega) (by omega), pE]; simpa [gS] using s b hb
        · intro b; rw [sP 205 (by omega) (by omega) (by omega), pE]; simpa [gS] using c5 b
        · intro b; simpa [gS] using m2 b
        · rw [sP 502 (by omega) (by omega) (by omega), sP 503 (by omega) (by omega) (by omega), pE, pE]
          exact ⟨by simp [gS], by simp [gS], by simp [gS]⟩
theorem q_into (H : rAll C M nc np nb bt bs kc) (bg mn ec sp : Int32) :
    (fPlc bg (C 6 0) = 0 ∧ mIntoU M nb kc bg mn ec sp 0 0 = 1 ∧ Rel C (mIntoU M nb kc bg mn ec sp)) ∨
    (¬ fPlc bg (C 6 0) = 0 ∧ (mIn mn 0 1000 = 0 ∨ mIn ec 1 1000 = 0 ∨ mIn sp 0 ec = 0) ∧ mIntoU M nb kc bg mn ec sp 0 0 = 2 ∧ Rel C (mIntoU M nb kc bg mn ec sp)) ∨
    (∃ b, b < nb ∧ bg = nI b ∧ ¬ fPlc bg (C 6 0) = 0 ∧ ¬ mIn mn 0 1000 = 0 ∧ ¬ mIn ec 1 1000 = 0 ∧ ¬ mIn sp 0 ec = 0 ∧ kc b = 6 ∧ mIntoU M nb kc bg mn ec sp 0 0 = 3 ∧ Rel C (mIntoU M nb kc bg mn ec sp)) ∨
    (∃ b, b < nb ∧ bg = nI b ∧ ¬ mIn mn 0 1000 = 0 ∧ ¬ mIn ec 1 1000 = 0 ∧ ¬ mIn sp 0 ec = 0 ∧ kc b < 6 ∧ mIntoU M nb kc bg mn ec sp 0 0 = 0 ∧ mIntoR nb kc bg mn ec sp = nI (kc b + 1) ∧ Rel (fAddK C b (kc b) mn ec sp) (mIntoU M nb kc bg mn ec sp)) := by
  have h4 := H.b.nb4
  rw [H.b.cB, u_plc (by omega)]
  by_cases a : mIn bg 0 (nI nb - 1) = 0
  · have e : mIntoC nb kc bg mn ec sp = 1 := by unfold mIntoC; rw [if_pos a]
    have eU : mIntoU M nb kc bg mn ec sp = gSt M 0 0 1 := by unfold mIntoU; rw [e]; rw [if_neg (by decide)]
    rw [eU]
    exact Or.inl ⟨a, by simp [gS], ⟨nc, np, nb, bt, bs, kc, H.m0 1⟩⟩
  · obtain ⟨b, hb, rfl⟩ := mIn_nat (by omega) a
    have ec0 : (nI b).toNatClampNeg = b := nI_clamp (by omega)
    by_cases k : mIntoG mn ec sp = 0
    · have e : mIntoC nb kc (nI b) mn ec sp = 2 := by unfold mIntoC; rw [if_neg a, if_pos k]
      have eU : mIntoU M nb kc (nI b) mn ec sp = gSt M 0 0 2 := by unfold mIntoU; rw [e]; rw [if_neg (by decide)]
      rw [eU]
      refine Or.inr (Or.inl ⟨a, ?_, by simp [gS], ⟨nc, np, nb, bt, bs, kc, H.m0 2⟩⟩)
      unfold mIntoG at k
      by_cases k1 : mIn mn 0 1000 = 0
      · exact Or.inl k1
      · by_cases k2 : mIn ec 1 1000 = 0
        · exact Or.inr (Or.inl k2)
        · by_cases k3 : mIn sp 0 ec = 0
          · exact Or.inr (Or.inr k3)
          · rw [if_neg k1, if_neg k2, if_neg k3] at k; exact absurd k (by decide)
    · have k1 : ¬ mIn mn 0 1000 = 0 := fun z => k (by unfold mIntoG; rw [if_pos z])
      have k2 : ¬ mIn ec 1 1000 = 0 := fun z => k (by unfold mIntoG; rw [if_neg k1, if_pos z])
      have k3 : ¬ mIn sp 0 ec = 0 := fun z => k (by unfold mIntoG; rw [if_neg k1, if_neg k2, if_pos z])
      have h6 := H.b.k6 b
      by_cases c6 : kc b = 6
      · have e : mIntoC nb kc (nI b) mn ec sp = 3 := by unfold mIntoC; rw [if_neg a, if_neg k, ec0, if_pos c6]
        have eU : mIntoU M nb kc (nI b) mn ec sp = gSt M 0 0 3 := by unfold mIntoU; rw [e]; rw [if_neg (by decide)]
        rw [eU]
        exact Or.inr (Or.inr (Or.inl ⟨b, hb, rfl, a, k1, k2, k3, c6, by simp [gS], ⟨nc, np, nb, bt, bs, kc, H.m0 3⟩⟩))
      · have e : mIntoC nb kc (nI b) mn ec sp = 0 := by unfold mIntoC; rw [if_neg a, if_neg k, ec0, if_neg c6]
        have eU : mIntoU M nb kc (nI b) mn ec sp = gSt (gSt (gSt (gSt (gSt M 0 0 0) 31 (6 * b + kc b) mn) 32 (6 * b + kc b) ec) 33 (6 * b + kc b) sp) 30 b (nI (kc b + 1)) := by unfold mIntoU; rw [if_pos e, ec0]
        rw [eU]
        refine Or.inr (Or.inr (Or.inr ⟨b, hb, rfl, k1, k2, k3, by omega, by simp [gS], by unfold mIntoR; rw [if_pos e, ec0], nc, np, nb, bt, bs, fun i => if i = b then kc b + 1 else kc i, ?_⟩))
        obtain ⟨D, Bg, s, c5, m2, hh⟩ := H
        have cE : ∀ i n, fAddK C b (kc b) mn ec sp i n = gSt (gSt (gSt (gSt (gSt (gSt C (1200 + b) (kc b) mn) (1300 + b) (kc b) ec) (1400 + b) (kc b) sp) 3 b (C 3 b + mn * ec)) 4 b (C 4 b + mn * sp)) 5 b (nI (kc b + 1)) i n := fun i n => by
          have x1 : fAdd1 C b (kc b) mn ec sp 3 b = C 3 b := by unfold fAdd1; rw [gSt_ne _ _ _ _ (by omega), gSt_ne _ _ _ _ (by omega), gSt_ne _ _ _ _ (by omega)]
          have x2 : fAdd2 (fAdd1 C b (kc b) mn ec sp) b mn ec 4 b = C 4 b := by unfold fAdd2 fAdd1; rw [gSt_ne _ _ _ _ (by omega), gSt_ne _ _ _ _ (by omega), gSt_ne _ _ _ _ (by omega), gSt_ne _ _ _ _ (by omega)]
          unfold fAddK fAdd3
          rw [x2]
          unfold fAdd2
          rw [x1]
          rfl
        have cN : ∀ i, i ≠ 3 → i ≠ 4 → i ≠ 5 → i < 1200 → fAddK C b (kc b) mn ec sp i = C i := fun i h1 h2 h3 h5 => by
          funext n
          rw [cE]
          rw [gSt_ne _ _ _ _ h3, gSt_ne _ _ _ _ h2, gSt_ne _ _ _ _ h1, gSt_ne _ _ _ _ (by omega), gSt_ne _ _ _ _ (by omega), gSt_ne _ _ _ _ (by omega)]
        have w12 : ∀ i j, i < 4 → fAddK C b (kc b) mn ec sp (1200 + i) j = if i = b ∧ j = kc b then mn else C (1200 + i) j := fun i j hi => by
          rw [cE, gSt_ne _ _ _ _ (by omega), gSt_ne _ _ _ _ (by omega), gSt_ne _ _ _ _ (by omega), gSt_ne _ _ _ _ (by omega), gSt_ne _ _ _ _ (by omega), gS]
          by_cases z : i = b ∧ j = kc b
          · rw [if_pos z, if_pos ⟨by omega, z.2⟩]
          · rw [if_neg z, if_neg (by omega)]
        have w13 : ∀ i j, i < 4 → fAddK C b (kc b) mn ec sp (1300 + i) j = if i = b ∧ j = kc b then ec else C (1300 + i) j := fun i j hi => by
          rw [cE, gSt_ne _ _ _ _ (by omega), gSt_ne _ _ _ _ (by omega), gSt_ne _ _ _ _ (by omega), gSt_ne _ _ _ _ (by omega), gS]
          by_cases z : i = b ∧ j = kc b
          · rw [if_pos z, if_pos ⟨by omega, z.2⟩]
          · rw [if_neg z, if_neg (by omega), gSt_ne _ _ _ _ (by omega)]
        have w14 : ∀ i j, i < 4 → fAddK C b (kc b) mn ec sp (1400 + i) j = if i = b ∧ j = kc b then sp else C (1400 + i) j := fun i j hi => by
          rw [cE, gSt_ne _ _ _ _ (by omega), gSt_ne _ _ _ _ (by omega), gSt_ne _ _ _ _ (by omega), gS]
          by_cases z : i = b ∧ j = kc b
          · rw [if_pos z, if_pos ⟨by omega, z.2⟩]
          · rw [if_neg z, if_neg (by omega), gSt_ne _ _ _ _ (by omega), gSt_ne _ _ _ _ (by omega)]
        have w5 : ∀ i, fAddK C b (kc b) mn ec sp 5 i = if i = b then nI (kc b + 1) else C 5 i := fun i => by
          rw [cE, gS]
          by_cases z : i = b
          · rw [if_pos z, if_pos ⟨rfl, z⟩]
          · rw [if_neg z, if_neg (by omega), gSt_ne _ _ _ _ (by omega), gSt_ne _ _ _ _ (by omega), gSt_ne _ _ _ _ (by omega), gSt_ne _ _ _ _ (by omega), gSt_ne _ _ _ _ (by omega)]
        have w4 : ∀ i, fAddK C b (kc b) mn ec sp 4 i = if i = b then C 4 b + mn * sp else C 4 i := fun i => by
          rw [cE, gSt_ne _ _ _ _ (by omega), gS]
          by_cases z : i = b
          · rw [if_pos z, if_pos ⟨rfl, z⟩]
          · rw [if_neg z, if_neg (by omega), gSt_ne _ _ _ _ (by omega), gSt_ne _ _ _ _ (by omega), gSt_ne _ _ _ _ (by omega), gSt_ne _ _ _ _ (by omega)]
        have w3 : ∀ i, fAddK C b (kc b) mn ec sp 3 i = if i = b then C 3 b + mn * ec else C 3 i := fun i => by
          rw [cE, gSt_ne _ _ _ _ (by omega), gSt_ne _ _ _ _ (by omega), gS]
          by_cases z : i = b
          · rw [if_pos z, if_pos ⟨rfl, z⟩]
          · rw [if_neg z, if_neg (by omega), gSt_ne _ _ _ _ (by omega), gSt_ne _ _ _ _ (by omega), gSt_ne _ _ _ _ (by omega)]
        clear cE
        generalize fAddK C b (kc b) mn ec sp = C' at *
        have v31 : ∀ n, gSt (gSt (gSt (gSt (gSt M 0 0 0) 31 (6 * b + kc b) mn) 32 (6 * b + kc b) ec) 33 (6 * b + kc b) sp) 30 b (nI (kc b + 1)) 31 n = if n = 6 * b + kc b then mn else M 31 n := fun n => by simp [gS]
        have v32 : ∀ n, gSt (gSt (gSt (gSt (gSt M 0 0 0) 31 (6 * b + kc b) mn) 32 (6 * b + kc b) ec) 33 (6 * b + kc b) sp) 30 b (nI (kc b + 1)) 32 n = if n = 6 * b + kc b then ec else M 32 n := fun n => by simp [gS]
        have v33 : ∀ n, gSt (gSt (gSt (gSt (gSt M 0 0 0) 31 (6 * b + kc b) mn) 32 (6 * b + kc b) ec) 33 (6 * b + kc b) sp) 30 b (nI (kc b + 1)) 33 n = if n = 6 * b + kc b then sp else M 33 n := fun n => by simp [gS]
        have v30 : ∀ n, gSt (gSt (gSt (gSt (gSt M 0 0 0) 31 (6 * b + kc b) mn) 32 (6 * b + kc b) ec) 33 (6 * b + kc b) sp) 30 b (nI (kc b + 1)) 30 n = if n = b then nI (kc b + 1) else M 30 n := fun n => by simp [gS]
        have mN : ∀ i, 1 ≤ i → i < 30 → gSt (gSt (gSt (gSt (gSt M 0 0 0) 31 (6 * b + kc b) mn) 32 (6 * b + kc b) ec) 33 (6 * b + kc b) sp) 30 b (nI (kc b + 1)) i = M i := fun i h1 h2 => by
          rw [gSt_ne _ _ _ _ (by omega), gSt_ne _ _ _ _ (by omega), gSt_ne _ _ _ _ (by omega), gSt_ne _ _ _ _ (by omega), gSt_ne _ _ _ _ (by omega)]
        generalize gSt (gSt (gSt (gSt (gSt M 0 0 0) 31 (6 * b + kc b) mn) 32 (6 * b + kc b) ec) 33 (6 * b + kc b) sp) 30 b (nI (kc b + 1)) = M' at *
        refine ⟨D.mv (fun i hi => cN i (by rcases hi with z | z | z <;> omega) (by rcases hi with z | z | z <;> omega) (by rcases hi with z | z | z <;> omega) (by rcases hi with z | z | z <;> omega)) (fun i h1 h2 => mN i h1 (by omega)), ?_, fun b hb => by rw [cN 402 (by omega) (by omega) (by omega) (by omega)]; exact s b hb, by rw [cN 205 (by omega) (by omega) (by omega) (by omega)]; exact c5, by rw [mN 22 (by omega) (by omega)]; exact m2, ?_⟩
        · obtain ⟨a0, a1, a2, a3, a4, a5, a6, a7, a8, a9, a10⟩ := Bg
          refine ⟨a0, by rw [cN 6 (by omega) (by omega) (by omega) (by omega)]; exact a1, by rw [mN 29 (by omega) (by omega)]; exact a2, fun i => ?_, fun i hi => ?_, fun i hi => ?_, fun i hi j hj => ?_, fun i hi j hj => ?_, fun i hi j hj => ?_, fun i hi => ?_, fun i hi => ?_⟩
          · show (if i = b then kc b + 1 else kc i) ≤ 6
            split
            · omega
            · exact a3 i
          · show C' 5 i = nI (if i = b then kc b + 1 else kc i)
            rw [w5]
            by_cases z : i = b
            · rw [if_pos z, if_pos z]
            · rw [if_neg z, if_neg z]; exact a4 i hi
          · show M' 30 i = nI (if i = b then kc b + 1 else kc i)
            rw [v30]
            by_cases z : i = b
            · rw [if_pos z, if_pos z]
            · rw [if_neg z, if_neg z]; exact a5 i hi
          · have h6i := a3 i
            have hj : j < (if i = b then kc b + 1 else kc i) := hj
            rw [w12 i j hi, v31]
            by_cases z : i = b ∧ j = kc b
            · rw [if_pos z, if_pos (by rw [z.1, z.2])]
            · have hj2 : j < kc i := by
                by_cases y : i = b
                · rw [if_pos y] at hj; rw [y] at z h6i ⊢; omega
                · rw [if_neg y] at hj; exact hj
              rw [if_neg z, if_neg (fun y => z (by have y1 : i = b := by omega
                                                   subst y1; exact ⟨rfl, by omega⟩))]
              exact a6 i hi j hj2
          · have h6i := a3 i
            have hj : j < (if i = b then kc b + 1 else kc i) := hj
            rw [w13 i j hi, v32]
            by_cases z : i = b ∧ j = kc b
            · rw [if_pos z, if_pos (by rw [z.1, z.2])]
            · have hj2 : j < kc i := by
                by_cases y : i = b
                · rw [if_pos y] at hj; rw [y] at z h6i ⊢; omega
                · rw [if_neg y] at hj; exact hj
              rw [if_neg z, if_neg (fun y => z (by have y1 : i = b := by omega
                                                   subst y1; exact ⟨rfl, by omega⟩))]
              exact a7 i hi j hj2
          · have h6i := a3 i
            have hj : j < (if i = b then kc b + 1 else kc i) := hj
            rw [w14 i j hi, v33]
            by_cases z : i = b ∧ j = kc b
            · rw [if_pos z, if_pos (by rw [z.1, z.2])]
            · have hj2 : j < kc i := by
                by_cases y : i = b
                · rw [if_pos y] at hj; rw [y] at z h6i ⊢; omega
                · rw [if_neg y] at hj; exact hj
              rw [if_neg z, if_neg (fun y => z (by have y1 : i = b := by omega
                                                   subst y1; exact ⟨rfl, by omega⟩))]
              exact a8 i hi j hj2
          · have h6i := a3 i
            show C' 3 i = mS1 M' 32 i (if i = b then kc b + 1 else kc i)
            rw [w3 i]
            by_cases z : i = b
            · subst z
              rw [if_pos rfl, if_pos rfl]
              unfold mS1
              rw [a9 i hi, mS1_congr (M := M') (M' := M) (x := 32) (b := i) (kc i) (fun j hj => ⟨by rw [v31, if_neg (by omega)], by rw [v32, if_neg (by omega)]⟩), v31, v32, if_pos rfl, if_pos rfl]
            · rw [if_neg z, if_neg z, a9 i hi]
              exact (mS1_congr (kc i) (fun j hj => ⟨by rw [v31, if_neg (by omega)], by rw [v32, if_neg (by omega)]⟩)).symm
          · have h6i := a3 i
            show C' 4 i = mS1 M' 33 i (if i = b then kc b + 1 else kc i)
            rw [w4 i]
            by_cases z : i = b
            · subst z
              rw [if_pos rfl, if_pos rfl]
              unfold mS1
              rw [a10 i hi, mS1_congr (M := M') (M' := M) (x := 33) (b := i) (kc i) (fun j hj => ⟨by rw [v31, if_neg (by omega)], by rw [v33, if_neg (by omega)]⟩), v31, v33, if_pos rfl, if_pos rfl]
            · rw [if_neg z, if_neg z, a10 i hi]
              exact (mS1_congr (kc i) (fun j hj => ⟨by rw [v31, if_neg (by omega)], by rw [v33, if_neg (by omega)]⟩)).symm
        · have q1 : ∀ i, rCi i → C' i = C i := fun i hi => cN i (by rcases hi with z | z | z <;> omega) (by rcases hi with z | z | z <;> omega) (by rcases hi with z | z | z <;> omega) (by rcases hi with z | z | z <;> omega)
          have q2 : C' 503 0 = C 503 0 := by rw [cN 503 (by omega) (by omega) (by omega) (by omega)]
          have q4 : C' 504 0 = C 504 0 := by rw [cN 504 (by omega) (by omega) (by omega) (by omega)]
          have q3 : ∀ i, 1000 ≤ i → i < 1200 → C' i = C i := fun i h1 h2 => cN i (by omega) (by omega) (by omega) (by omega)
          rcases hh with ⟨b1, b2, b3⟩ | ⟨b1, b2, b3⟩
          · exact Or.inl ⟨by rw [cN 502 (by omega) (by omega) (by omega) (by omega)]; exact b1, by rw [q2]; exact b2, by rw [mN 24 (by omega) (by omega)]; exact b3⟩
          · refine Or.inr ⟨by rw [cN 502 (by omega) (by omega) (by omega) (by omega)]; exact b1, b2.mv q1 q2 q4 q3, ?_⟩
            rcases b3 with ⟨c1, c2⟩ | ⟨nbx, r, cx, c1, c2⟩
            · exact Or.inl ⟨by rw [q2]; exact c1, by rw [mN 24 (by omega) (by omega)]; exact c2⟩
            · exact Or.inr ⟨nbx, r, cx, by rw [mN 24 (by omega) (by omega)]; exact c1, c2.mv D.np8 q1 q2 q4 q3 (mN 25 (by omega) (by omega)) (mN 26 (by omega) (by omega)) (mN 23 (by omega) (by omega))⟩
end OPS
end
