section
/-! pure part 5: the reference's search -/
theorem mZero_28 (σ : Nat → Nat → Int32) : ∀ k b, b < k → mZero σ k 28 b = 0
  | 0, b, h => by omega
  | k + 1, b, h => by
    unfold mZero
    rw [gSt_eq]
    by_cases c : b = k
    · subst c; rw [pk_us]
    · rw [pk_un c]; exact mZero_28 σ k b (by omega)
theorem mSets_n (σ : Nat → Nat → Int32) (rho : Nat → Nat) : ∀ q, (mSets σ rho q).2 = sN rho q
  | 0 => rfl
  | q + 1 => by unfold mSets sN; rw [mSets_n σ rho q]
theorem mSets_28 (σ : Nat → Nat → Int32) (rho : Nat → Nat) : ∀ q, q ≤ 8 → ∀ b, b < 8 → (mSets σ rho q).1 28 b = nI (sB rho b q)
  | 0, _, b, hb => mZero_28 σ 8 b hb
  | q + 1, hq, b, hb => by
    have ih := mSets_28 σ rho q (by omega)
    show gSt (mSets σ rho q).1 28 (rho q) ((mSets σ rho q).1 28 (rho q) ||| fBit q) 28 b = _
    rw [gSt_eq]
    unfold sB
    by_cases c : b = rho q
    · rw [c, pk_us, if_pos rfl, ih _ (by omega)]
      exact gOr8 q (by omega) _ (sB_lt rho _ q)
    · rw [pk_un c, if_neg (by omega), ih b hb]; rfl
def sW (PR sx : Nat → Nat) : Nat → Nat → Nat
  | 0, _ => 0
  | d + 1, b => PR (sx b) + sW PR sx d (b + 1)
theorem sW_succ (PR sx : Nat → Nat) : ∀ d b, sW PR sx (d + 1) b = sW PR sx d b + PR (sx (b + d))
  | 0, b => by simp [sW]
  | d + 1, b => by
    show PR (sx b) + sW PR sx (d + 1) (b + 1) = PR (sx b) + sW PR sx d (b + 1) + _
    rw [sW_succ PR sx d (b + 1), show b + 1 + d = b + (d + 1) by omega]
    omega
theorem sV_W (PR r : Nat → Nat) (np : Nat) : ∀ b, sV PR r np b = sW PR (fun b => sB r b np) b 0
  | 0 => rfl
  | b + 1 => by rw [sW_succ, ← sV_W PR r np b]; show _ = _ + PR (sB r (0 + b) np); rw [Nat.zero_add]; rfl
abbrev rMT (M0 : Nat → Nat → Int32) (PR : Nat → Nat) (np nc : Nat) : Prop := (np ≤ 8) ∧ (nc ≤ 4) ∧ (M0 8 0 = nI np) ∧ (∀ x, 1 ≤ x → x < 2 ^ np → (M0 23 x = -1 ∧ PR x = 7200009) ∨ ∃ c y : Nat, c < nc ∧ M0 23 x = nI c ∧ M0 6 c = nI y ∧ 1 ≤ y ∧ y ≤ 100000 ∧ PR x = 9 * y + 1)
theorem rMT.n8 {M0 : Nat → Nat → Int32} {PR : Nat → Nat} {np nc : Nat} (h0 : rMT M0 PR np nc) : np ≤ 8 := h0.1
theorem rMT.c4 {M0 : Nat → Nat → Int32} {PR : Nat → Nat} {np nc : Nat} (h0 : rMT M0 PR np nc) : nc ≤ 4 := h0.2.1
theorem rMT.qN {M0 : Nat → Nat → Int32} {PR : Nat → Nat} {np nc : Nat} (h0 : rMT M0 PR np nc) : M0 8 0 = nI np := h0.2.2.1
theorem rMT.p {M0 : Nat → Nat → Int32} {PR : Nat → Nat} {np nc : Nat} (h0 : rMT M0 PR np nc) : ∀ x, 1 ≤ x → x < 2 ^ np → (M0 23 x = -1 ∧ PR x = 7200009) ∨ ∃ c y : Nat, c < nc ∧ M0 23 x = nI c ∧ M0 6 c = nI y ∧ 1 ≤ y ∧ y ≤ 100000 ∧ PR x = 9 * y + 1 := h0.2.2.2
theorem mCost_s {σ M0 : Nat → Nat → Int32} {PR sx : Nat → Nat} {np nc : Nat} (hM : rMT M0 PR np nc) (h23 : σ 23 = M0 23) (h6 : σ 6 = M0 6) : ∀ d b acc, acc ≤ 100000 * b → b + d ≤ 8 → (∀ i, b ≤ i → i < b + d → 1 ≤ sx i ∧ sx i < 2 ^ np) →
    (∃ s, mCost σ sx d b (nI acc) = nI (acc + s) ∧ s ≤ 100000 * d ∧ sW PR sx d b = 9 * s + d) ∨ (mCost σ sx d b (nI acc) = -1 ∧ 7200009 ≤ sW PR sx d b)
  | 0, b, acc, _, _, _ => Or.inl ⟨0, rfl, Nat.le_refl _, rfl⟩
  | d + 1, b, acc, h1, h2, h3 => by
    have hc4 := hM.c4
    obtain ⟨x1, x2⟩ := h3 b (by omega) (by omega)
    unfold mCost sW
    rw [h23, h6]
    rcases hM.p _ x1 x2 with ⟨a1, a2⟩ | ⟨c, y, c0, a1, a2, y1, y2, a3⟩
    · rw [a1, if_neg (by decide), a2]
      exact Or.inr ⟨rfl, by omega⟩
    · rw [a1, if_pos (nI_pos' (by omega)), nI_clamp (by omega), a2, nI_add, a3]
      rcases mCost_s hM h23 h6 d (b + 1) (acc + y) (by omega) (by omega) (fun i hi hj => h3 i (by omega) (by omega)) with ⟨s, e1, e2, e3⟩ | ⟨e1, e2⟩
      · exact Or.inl ⟨y + s, by rw [e1, Nat.add_assoc], by omega, by rw [e3]; omega⟩
      · exact Or.inr ⟨e1, by omega⟩
def rBM (τ : Nat → Nat → Int32) (ls : Int32) (np : Nat) (B : Nat × (Nat → Nat)) : Prop := (B.1 = 7200009 ∧ ls = -1) ∨ (B.1 < 7200009 ∧ ∃ s : Nat, s ≤ 800000 ∧ ls = nI s ∧ B.1 = 9 * s + sN B.2 np ∧ sN B.2 np ≤ 8 ∧ τ 25 0 = nI (sN B.2 np) ∧ ∀ i, i < np → τ 26 i = nI (B.2 i))
abbrev rMo (M0 τ : Nat → Nat → Int32) (ls : Int32) (np : Nat) (B : Nat × (Nat → Nat)) : Prop := (∀ i, i ≠ 25 → i ≠ 26 → i ≠ 27 → i ≠ 28 → τ i = M0 i) ∧ (rBM τ ls np B)
theorem rMo.fx {M0 τ : Nat → Nat → Int32} {ls : Int32} {np : Nat} {B : Nat × (Nat → Nat)} (h0 : rMo M0 τ ls np B) : ∀ i, i ≠ 25 → i ≠ 26 → i ≠ 27 → i ≠ 28 → τ i = M0 i := h0.1
theorem rMo.v {M0 τ : Nat → Nat → Int32} {ls : Int32} {np : Nat} {B : Nat × (Nat → Nat)} (h0 : rMo M0 τ ls np B) : rBM τ ls np B := h0.2
def rTr (τ : Nat → Nat → Int32) (np : Nat) (r : Nat → Nat) (q : Nat) : Prop := ∀ i, i < np → τ 27 i = nI (if i < q then r i else 0)
theorem mCopy_26 (τ : Nat → Nat → Int32) : ∀ k i, mCopy τ k 26 i = if i < k then τ 27 i else τ 26 i
  | 0, i => by simp [mCopy]
  | k + 1, i => by
    unfold mCopy
    rw [gSt_eq, mCopy_fix τ (i := 27) (by omega) k]
    by_cases c : i = k
    · subst c; rw [pk_us, if_pos (by omega)]
    · rw [pk_un c, mCopy_26 τ k i]
      by_cases c2 : i < k
      · rw [if_pos c2, if_pos (by omega)]
      · rw [if_neg c2, if_neg (by omega)]
theorem rMo.rho {τ : Nat → Nat → Int32} {np : Nat} {r : Nat → Nat} (ht : rTr τ np r np) (hr : ∀ i, i < np → r i < 8) : ∀ i, i < np → mRho τ i = r i := fun i hi => by
  unfold mRho
  rw [ht i hi, if_pos hi, nI_clamp (by have := hr i hi; omega)]
theorem rMo.pre {M0 τ : Nat → Nat → Int32} {ls : Int32} {PR r : Nat → Nat} {np nc bx : Nat} {B : Nat × (Nat → Nat)} (hM : rMT M0 PR np nc) (hg : rG r np bx) (h : rMo M0 τ ls np B) (ht : rTr τ np r np) :
    (mSets τ (mRho τ) np).2 = bx ∧ (∀ b, b < 8 → (mSets τ (mRho τ) np).1 28 b = nI (sB r b np) ∧ mSx (mSets τ (mRho τ) np).1 b = sB r b np) ∧ mPreI np τ := by
  have h8 := hM.n8
  have hc4 := hM.c4
  have hle := hg.le
  have h28 := p28 h8
  have hr := rMo.rho ht (fun i hi => by have := hg.rl i hi; omega)
  have e1 : (mSets τ (mRho τ) np).2 = bx := by rw [mSets_n, sN_congr np hr, hg.n]
  have e2 : ∀ b, b < 8 → (mSets τ (mRho τ) np).1 28 b = nI (sB r b np) := fun b hb => by rw [mSets_28 _ _ np h8 b hb, sB_congr b np hr]
  have e3 : ∀ b, b < 8 → mSx (mSets τ (mRho τ) np).1 b = sB r b np := fun b hb => by
    unfold mSx
    rw [e2 b hb, nI_clamp (by have := sB_lt r b np; omega)]
  refine ⟨e1, fun b hb => ⟨e2 b hb, e3 b hb⟩, ?_, ?_, ?_, ?_, ?_⟩
  · rw [h.fx 8 (by omega) (by omega) (by omega) (by omega)]; exact hM.qN
  · intro q hq
    have := hg.rl q hq
    rw [hr q hq, ht q hq, if_pos hq]
    exact ⟨rfl, by omega⟩
  · rw [e1]; omega
  · intro b hb
    rw [e1] at hb
    rw [e3 b (by omega), e2 b (by omega)]
    exact ⟨rfl, by have := sB_lt r b np; omega⟩
  · intro b hb
    rw [e1] at hb
    rw [e3 b (by omega), mSets_fix _ _ (by omega), h.fx 23 (by omega) (by omega) (by omega) (by omega)]
    rcases hM.p _ (hg.po b (by omega)) (sB_lt r b np) with ⟨a1, a2⟩ | ⟨c, y, c0, a1, _⟩
    · rw [a1]; exact Or.inl u_m1lt
    · exact Or.inr ⟨c, by omega, a1⟩
theorem mCost_congr (σ : Nat → Nat → Int32) {sx sy : Nat → Nat} : ∀ d b acc, (∀ i, b ≤ i → i < b + d → sx i = sy i) → mCost σ sx d b acc = mCost σ sy d b acc
  | 0, _, _, _ => rfl
  | d + 1, b, acc, h => by
    unfold mCost
    rw [h b (by omega) (by omega), mCost_congr σ d (b + 1) _ (fun i h1 h2 => h i (by omega) (by omega))]
theorem rMo.stp {M0 τ : Nat → Nat → Int32} {ls : Int32} {PR r : Nat → Nat} {np nc bx : Nat} {B : Nat × (Nat → Nat)} (hM : rMT M0 PR np nc) (hg : rG r np bx) (h : rMo M0 τ ls np B) (ht : rTr τ np r np) :
    rMo M0 (mStep np (τ, ls)).1 (mStep np (τ, ls)).2 np (sA PR np B r) ∧ (mStep np (τ, ls)).1 27 = τ 27 := by
  have h8 := hM.n8
  have hle := hg.le
  obtain ⟨e1, e2, -⟩ := h.pre hM hg ht
  have f23 : (mSets τ (mRho τ) np).1 23 = M0 23 := by rw [mSets_fix _ _ (by omega), h.fx 23 (by omega) (by omega) (by omega) (by omega)]
  have f6 : (mSets τ (mRho τ) np).1 6 = M0 6 := by rw [mSets_fix _ _ (by omega), h.fx 6 (by omega) (by omega) (by omega) (by omega)]
  have f25 : (mSets τ (mRho τ) np).1 25 = τ 25 := mSets_fix _ _ (by omega) _
  have f27 : (mSets τ (mRho τ) np).1 27 = τ 27 := mSets_fix _ _ (by omega) _
  have f26 : (mSets τ (mRho τ) np).1 26 = τ 26 := mSets_fix _ _ (by omega) _
  have hs : mTrySum np τ = mCost (mSets τ (mRho τ) np).1 (fun b => sB r b np) bx 0 (nI 0) := by
    unfold mTrySum
    rw [e1]
    exact mCost_congr _ _ _ _ (fun i _ hi => (e2 i (by omega)).2)
  have hc := mCost_s (sx := fun b => sB r b np) hM f23 f6 bx 0 0 (by omega) (by omega) (fun i _ hi => ⟨hg.po i (by omega), sB_lt r i np⟩)
  rw [← hs, ← sV_W] at hc
  have hfx : ∀ i, i ≠ 25 → i ≠ 26 → i ≠ 27 → i ≠ 28 → (mSets τ (mRho τ) np).1 i = M0 i := fun i h1 h2 h3 h4 => by rw [mSets_fix _ _ h4]; exact h.fx i h1 h2 h3 h4
  have keep : rMo M0 (mSets τ (mRho τ) np).1 ls np B := ⟨hfx, by unfold rBM; rw [f25, f26]; exact h.v⟩
  have hcf : ∀ i, i ≠ 26 → mCopy (gSt (mSets τ (mRho τ) np).1 25 0 (nI bx)) np i = gSt (mSets τ (mRho τ) np).1 25 0 (nI bx) i := fun i hi => mCopy_fix _ hi np
  have take : ∀ s, s ≤ 800000 → mTrySum np τ = nI s → sV PR r np bx = 9 * s + bx → rMo M0 (mCopy (gSt (mSets τ (mRho τ) np).1 25 0 (nI bx)) np) (mTrySum np τ) np (sV PR r np bx, r) := by
    intro s h1 h2 h3
    refine ⟨fun i g1 g2 g3 g4 => by rw [hcf i g2, gSt_ne _ _ _ _ g1]; exact hfx i g1 g2 g3 g4, Or.inr ⟨by show sV PR r np bx < _; omega, s, h1, h2, ?_, ?_, ?_, ?_⟩⟩
    · show sV PR r np bx = 9 * s + sN r np; rw [hg.n]; exact h3
    · show sN r np ≤ 8; rw [hg.n]; omega
    · show _ = nI (sN r np); rw [hg.n, hcf 25 (by omega), gSt_eq, pk_us]
    · intro i hi
      rw [mCopy_26, if_pos hi, gSt_ne _ _ _ _ (by omega), f27, ht i hi, if_pos hi]
  have t27 : mCopy (gSt (mSets τ (mRho τ) np).1 25 0 (nI bx)) np 27 = τ 27 := by rw [hcf 27 (by omega), gSt_ne _ _ _ _ (by omega), f27]
  unfold mStep sA
  show rMo M0 (if mAccB ls (mTrySum np τ) (nI (mSets τ (mRho τ) np).2) ((mSets τ (mRho τ) np).1 25 0) = 0 then _ else _ : (Nat → Nat → Int32) × Int32).1 _ _ _ ∧ _
  rw [e1, f25, hg.n]
  show rMo M0 (if mAccB ls (mTrySum np τ) (nI bx) (τ 25 0) = 0 then ((mSets τ (mRho τ) np).1, ls) else (mCopy (gSt (mSets τ (mRho τ) np).1 25 0 (nI bx)) np, mTrySum np τ)).1 (if mAccB ls (mTrySum np τ) (nI bx) (τ 25 0) = 0 then ((mSets τ (mRho τ) np).1, ls) else (mCopy (gSt (mSets τ (mRho τ) np).1 25 0 (nI bx)) np, mTrySum np τ)).2 np _ ∧ _
  have fin : ∀ P : Prop, (mAccB ls (mTrySum np τ) (nI bx) (τ 25 0) = 0 ↔ ¬ P) → ∀ _ : Decidable P, (P → rMo M0 (mCopy (gSt (mSets τ (mRho τ) np).1 25 0 (nI bx)) np) (mTrySum np τ) np (sV PR r np bx, r)) → 
    rMo M0 (if mAccB ls (mTrySum np τ) (nI bx) (τ 25 0) = 0 then ((mSets τ (mRho τ) np).1, ls) else (mCopy (gSt (mSets τ (mRho τ) np).1 25 0 (nI bx)) np, mTrySum np τ)).1 (if mAccB ls (mTrySum np τ) (nI bx) (τ 25 0) = 0 then ((mSets τ (mRho τ) np).1, ls) else (mCopy (gSt (mSets τ (mRho τ) np).1 25 0 (nI bx)) np, mTrySum np τ)).2 np (if P then (sV PR r np bx, r) else B) ∧ (if mAccB ls (mTrySum np τ) (nI bx) (τ 25 0) = 0 then ((mSets τ (mRho τ) np).1, ls) else (mCopy (gSt (mSets τ (mRho τ) np).1 25 0 (nI bx)) np, mTrySum np τ)).1 27 = τ 27 := by
    intro P hP _ ht
    by_cases c : P
    · have : ¬ mAccB ls (mTrySum np τ) (nI bx) (τ 25 0) = 0 := fun z => hP.mp z c
      rw [if_neg this, if_pos c]
      exact ⟨ht c, t27⟩
    · rw [if_pos (hP.mpr c), if_neg c]
      exact ⟨keep, f27⟩
  refine fin _ ?_ _ ?_
  · unfold mAccB
    rcases hc with ⟨s, a1, a2, a3⟩ | ⟨a1, a2⟩
    · rw [Nat.zero_add] at a1
      rw [a1, if_neg (nI_pos (by omega))]
      rcases h.v with ⟨b1, b2⟩ | ⟨b1, s0, b2, b3, b4, b5, b6, -⟩
      · rw [b2, if_pos u_m1lt]
        exact ⟨fun z => absurd z (by decide), fun z => absurd (show sV PR r np bx < B.1 by omega) z⟩
      · rw [b3, b6, if_neg (nI_pos (by omega))]
        by_cases c1 : s < s0
        · rw [if_pos (nI_lt c1 (by omega))]
          exact ⟨fun z => absurd z (by decide), fun z => absurd (show sV PR r np bx < B.1 by omega) z⟩
        · rw [if_neg (nI_nlt (by omega) (by omega))]
          by_cases c2 : s = s0
          · rw [if_neg (by rw [c2]; simp)]
            by_cases c3 : sN B.2 np ≤ bx
            · rw [if_pos (nI_le c3 (by omega))]
              exact ⟨fun _ => by omega, fun _ => rfl⟩
            · rw [if_neg (nI_ge (by omega) (by omega))]
              exact ⟨fun z => absurd z (by decide), fun z => absurd (show sV PR r np bx < B.1 by omega) z⟩
          · rw [if_pos (fun z => c2 ((nI_eq (by omega) (by omega)).mp z))]
            exact ⟨fun _ => by omega, fun _ => rfl⟩
    · rw [a1, if_pos u_m1lt]
      refine ⟨fun _ => ?_, fun _ => rfl⟩
      rcases h.v with ⟨b1, b2⟩ | ⟨b1, -⟩ <;> omega
  · intro hlt
    rcases hc with ⟨s, a1, a2, a3⟩ | ⟨a1, a2⟩
    · exact take s (by omega) (by rw [a1, Nat.zero_add]) a3
    · exfalso
      rcases h.v with ⟨b1, b2⟩ | ⟨b1, -⟩ <;> omega
theorem mMost_s {f : Nat → Int32} {r : Nat → Nat} : ∀ q, q ≤ 8 → (∀ i, i < q → f i = nI (r i) ∧ r i < 8) → sN r q ≤ 8 ∧ mMost f q = nI (sN r q - 1)
  | 0, _, _ => ⟨Nat.zero_le _, rfl⟩
  | q + 1, hq, h => by
    obtain ⟨i1, i2⟩ := mMost_s q (by omega) (fun i hi => h i (by omega))
    obtain ⟨h1, h2⟩ := h q (by omega)
    unfold mMost sN
    rw [i2, h1]
    by_cases c : r q < sN r q
    · rw [if_pos c, if_pos (nI_le (by omega) (by omega))]
      exact ⟨i1, rfl⟩
    · rw [if_neg c]
      refine ⟨by omega, ?_⟩
      by_cases c2 : r q ≤ sN r q - 1
      · rw [if_pos (nI_le c2 (by omega))]; congr 1; omega
      · rw [if_neg (nI_ge (by omega) (by omega))]; rfl
theorem mZt_27 (σ : Nat → Nat → Int32) (p : Nat) : ∀ k i, mZt σ p k 27 i = if p + 1 ≤ i ∧ i < p + 1 + k then 0 else σ 27 i
  | 0, i => by rw [if_neg (by omega)]; rfl
  | k + 1, i => by
    unfold mZt
    rw [gSt_eq]
    by_cases c : i = p + 1 + k
    · subst c; rw [pk_us, if_pos (by omega)]
    · rw [pk_un c, mZt_27 σ p k i]
      by_cases c2 : p + 1 ≤ i ∧ i < p + 1 + k
      · rw [if_pos c2, if_pos (by omega)]
      · rw [if_neg c2, if_neg (by omega)]
theorem mZt_fix (σ : Nat → Nat → Int32) (p : Nat) {i : Nat} (h : i ≠ 27) : ∀ k, mZt σ p k i = σ i
  | 0 => rfl
  | k + 1 => by unfold mZt; rw [gSt_ne _ _ _ _ h, mZt_fix σ p h k]
def sF (np q m : Nat) (τ : Nat → Nat → Int32) (ls : Int32) : (Nat → Nat → Int32) × Int32 := if (mNext τ np q).2 = 0 then ((mNext τ np q).1, ls) else mIter np m ((mNext τ np q).1, ls)
def sFk (np q m : Nat) (τ : Nat → Nat → Int32) (ls : Int32) : Prop := ¬ (mNext τ np q).2 = 0 → mOK np m ((mNext τ np q).1, ls)
theorem rMo.next {τ : Nat → Nat → Int32} {np q bx k : Nat} {r : Nat → Nat} (h8 : q < 8) (hg : rG r q bx) (ht : ∀ i, i < q + 1 → τ 27 i = nI (sU r q k i)) :
    (k = bx → mNext τ np (q + 1) = mNext τ np q) ∧ (k < bx → mNext τ np (q + 1) = (mZt (gSt τ 27 q (nI (k + 1))) q (np - (q + 1)), 1)) := by
  have hle := hg.le
  have e0 : τ 27 q = nI k := by rw [ht q (by omega), sU_eq]
  have hm := (mMost_s (f := τ 27) (r := r) q (by omega) (fun i hi => ⟨by rw [ht i (by omega), sU_lt hi], by have := hg.rl i hi; omega⟩)).2
  rw [hg.n] at hm
  constructor
  · intro e
    show (if q = 0 then (τ, 0) else if mMost (τ 27) q < τ 27 q then mNext τ np q else _) = _
    by_cases c : q = 0
    · rw [if_pos c, c]; rfl
    · have := hg.rl 0 (by omega)
      rw [if_neg c, if_pos (by rw [hm, e0]; exact nI_lt (by omega) (by omega))]
  · intro e
    show (if q = 0 then (τ, 0) else if mMost (τ 27) q < τ 27 q then mNext τ np q else (mZt (gSt τ 27 q (τ 27 q + 1)) q (np - (q + 1)), 1)) = _
    rw [if_neg (by omega), if_neg (by rw [hm, e0]; exact nI_nlt (by omega) (by omega)), e0, nI_1]
theorem rMo.node {M0 : Nat → Nat → Int32} {PR : Nat → Nat} {np nc : Nat} (hM : rMT M0 PR np nc) : ∀ d q bx r B τ ls, q + d = np → rG r q bx → rMo M0 τ ls np B → rTr τ np r q →
    ∃ N τ' ls', rMo M0 τ' ls' np (sT PR np d q bx r B) ∧ (∀ i, i < q → τ' 27 i = nI (r i)) ∧ ∀ m, mIter np (N + m) (τ, ls) = sF np q m τ' ls' ∧ (sFk np q m τ' ls' → mOK np (N + m) (τ, ls)) := by
  intro d
  induction d with
  | zero =>
    intro q bx r B τ ls e hg h ht
    obtain rfl : q = np := by omega
    obtain ⟨s1, s2⟩ := h.stp hM hg ht
    refine ⟨1, (mStep q (τ, ls)).1, (mStep q (τ, ls)).2, s1, fun i hi => by rw [s2, ht i hi, if_pos hi], fun m => ?_⟩
    rw [Nat.add_comm]
    exact ⟨rfl, fun hk => ⟨(h.pre hM hg ht).2.2, hk⟩⟩
  | succ d ihd =>
    intro q bx r B τ ls e hg h ht
    have h8 := hM.n8
    have hle := hg.le
    have inner : ∀ j k τ ls, k + j = bx → rMo M0 τ ls np (sTL (fun k => sT PR np d (q + 1) (fMx bx (k + 1)) (sU r q k)) k B) → rTr τ np (sU r q k) (q + 1) →
        ∃ N τ' ls', rMo M0 τ' ls' np (sTL (fun k => sT PR np d (q + 1) (fMx bx (k + 1)) (sU r q k)) (bx + 1) B) ∧ (∀ i, i < q → τ' 27 i = nI (r i)) ∧ ∀ m, mIter np (N + m) (τ, ls) = sF np q m τ' ls' ∧ (sFk np q m τ' ls' → mOK np (N + m) (τ, ls)) := by
      intro j
      induction j with
      | zero =>
        intro k τ ls ek h1 h2
        obtain rfl : k = bx := by omega
        obtain ⟨N, τ', ls', a1, a2, a3⟩ := ihd (q + 1) _ _ _ τ ls (by omega) (hg.step (Nat.le_refl _)) h1 h2
        have hn := (rMo.next (np := np) (by omega) hg a2).1 rfl
        refine ⟨N, τ', ls', a1, fun i hi => by rw [a2 i (by omega), sU_lt hi], fun m => ?_⟩
        have := a3 m
        unfold sF sFk at this ⊢
        rw [hn] at this
        exact this
      | succ j ihj =>
        intro k τ ls ek h1 h2
        obtain ⟨N, τ', ls', a1, a2, a3⟩ := ihd (q + 1) _ _ _ τ ls (by omega) (hg.step (k := k) (by omega)) h1 h2
        have hn := (rMo.next (np := np) (by omega) hg a2).2 (by omega)
        have b1 : rMo M0 (mZt (gSt τ' 27 q (nI (k + 1))) q (np - (q + 1))) ls' np (sTL (fun k => sT PR np d (q + 1) (fMx bx (k + 1)) (sU r q k)) (k + 1) B) := by
          refine ⟨fun i g1 g2 g3 g4 => ?_, ?_⟩
          · rw [mZt_fix _ _ g3, gSt_ne _ _ _ _ g3]; exact a1.fx i g1 g2 g3 g4
          · unfold rBM
            rw [mZt_fix _ _ (by omega), mZt_fix _ _ (by omega), gSt_ne _ _ _ _ (by omega), gSt_ne _ _ _ _ (by omega)]
            exact a1.v
        have b2 : rTr (mZt (gSt τ' 27 q (nI (k + 1))) q (np - (q + 1))) np (sU r q (k + 1)) (q + 1) := by
          intro i hi
          rw [mZt_27, gSt_eq]
          by_cases c1 : i < q + 1
          · rw [if_neg (by omega), if_pos c1]
            by_cases c2 : i = q
            · subst c2; rw [pk_us, sU_eq]
            · rw [pk_un c2, a2 i c1, sU_lt (by omega), sU_lt (by omega)]
          · rw [if_pos (by omega), if_neg c1]; rfl
        obtain ⟨N2, τ2, ls2, c1, c2, c3⟩ := ihj (k + 1) _ _ (by omega) b1 b2
        refine ⟨N + N2, τ2, ls2, c1, c2, fun m => ?_⟩
        obtain ⟨d1, d2⟩ := a3 (N2 + m)
        obtain ⟨d3, d4⟩ := c3 m
        rw [Nat.add_assoc, d1]
        have e5 : sF np (q + 1) (N2 + m) τ' ls' = mIter np (N2 + m) (mZt (gSt τ' 27 q (nI (k + 1))) q (np - (q + 1)), ls') := by
          unfold sF
          rw [hn, if_neg (by show ¬ (1 : Int32) = 0; decide)]
        refine ⟨e5.trans d3, fun hk => d2 ?_⟩
        unfold sFk
        rw [hn]
        exact fun _ => d4 hk
    unfold sT
    refine inner bx 0 τ ls (by omega) h ?_
    intro i hi
    rw [ht i hi]
    by_cases c1 : i < q
    · rw [if_pos c1, if_pos (by omega), sU_lt c1]
    · rw [if_neg c1]
      by_cases c2 : i = q
      · subst c2; rw [if_pos (by omega), sU_eq]
      · rw [if_neg (by omega)]
end
