section
/-! pure part 8: the relation of class and reference, run -/
abbrev rBg (C M : Nat → Nat → Int32) (nb : Nat) (kc : Nat → Nat) : Prop := (nb ≤ 4) ∧ (C 6 0 = nI nb) ∧ (M 29 0 = nI nb) ∧ (∀ b, kc b ≤ 6) ∧ (∀ b, b < 4 → C 5 b = nI (kc b)) ∧ (∀ b, b < 4 → M 30 b = nI (kc b)) ∧ (∀ b, b < 4 → ∀ k, k < kc b → C (1200 + b) k = M 31 (6 * b + k)) ∧ (∀ b, b < 4 → ∀ k, k < kc b → C (1300 + b) k = M 32 (6 * b + k)) ∧ (∀ b, b < 4 → ∀ k, k < kc b → C (1400 + b) k = M 33 (6 * b + k)) ∧ (∀ b, b < 4 → C 3 b = mS1 M 32 b (kc b)) ∧ (∀ b, b < 4 → C 4 b = mS1 M 33 b (kc b))
theorem rBg.nb4 {C M : Nat → Nat → Int32} {nb : Nat} {kc : Nat → Nat} (h0 : rBg C M nb kc) : nb ≤ 4 := h0.1
theorem rBg.cB {C M : Nat → Nat → Int32} {nb : Nat} {kc : Nat → Nat} (h0 : rBg C M nb kc) : C 6 0 = nI nb := h0.2.1
theorem rBg.mB {C M : Nat → Nat → Int32} {nb : Nat} {kc : Nat → Nat} (h0 : rBg C M nb kc) : M 29 0 = nI nb := h0.2.2.1
theorem rBg.k6 {C M : Nat → Nat → Int32} {nb : Nat} {kc : Nat → Nat} (h0 : rBg C M nb kc) : ∀ b, kc b ≤ 6 := h0.2.2.2.1
theorem rBg.ck {C M : Nat → Nat → Int32} {nb : Nat} {kc : Nat → Nat} (h0 : rBg C M nb kc) : ∀ b, b < 4 → C 5 b = nI (kc b) := h0.2.2.2.2.1
theorem rBg.km {C M : Nat → Nat → Int32} {nb : Nat} {kc : Nat → Nat} (h0 : rBg C M nb kc) : ∀ b, b < 4 → M 30 b = nI (kc b) := h0.2.2.2.2.2.1
theorem rBg.r1 {C M : Nat → Nat → Int32} {nb : Nat} {kc : Nat → Nat} (h0 : rBg C M nb kc) : ∀ b, b < 4 → ∀ k, k < kc b → C (1200 + b) k = M 31 (6 * b + k) := h0.2.2.2.2.2.2.1
theorem rBg.r2 {C M : Nat → Nat → Int32} {nb : Nat} {kc : Nat → Nat} (h0 : rBg C M nb kc) : ∀ b, b < 4 → ∀ k, k < kc b → C (1300 + b) k = M 32 (6 * b + k) := h0.2.2.2.2.2.2.2.1
theorem rBg.r3 {C M : Nat → Nat → Int32} {nb : Nat} {kc : Nat → Nat} (h0 : rBg C M nb kc) : ∀ b, b < 4 → ∀ k, k < kc b → C (1400 + b) k = M 33 (6 * b + k) := h0.2.2.2.2.2.2.2.2.1
theorem rBg.s1 {C M : Nat → Nat → Int32} {nb : Nat} {kc : Nat → Nat} (h0 : rBg C M nb kc) : ∀ b, b < 4 → C 3 b = mS1 M 32 b (kc b) := h0.2.2.2.2.2.2.2.2.2.1
theorem rBg.s2 {C M : Nat → Nat → Int32} {nb : Nat} {kc : Nat → Nat} (h0 : rBg C M nb kc) : ∀ b, b < 4 → C 4 b = mS1 M 33 b (kc b) := h0.2.2.2.2.2.2.2.2.2.2
theorem mS1_congr {M M' : Nat → Nat → Int32} {x b : Nat} : ∀ n, (∀ k, k < n → M 31 (6 * b + k) = M' 31 (6 * b + k) ∧ M x (6 * b + k) = M' x (6 * b + k)) → mS1 M x b n = mS1 M' x b n
  | 0, _ => rfl
  | n + 1, h => by unfold mS1; rw [mS1_congr n (fun k hk => h k (by omega)), (h n (by omega)).1, (h n (by omega)).2]
theorem rBg.mv {C M C' M' : Nat → Nat → Int32} {nb : Nat} {kc : Nat → Nat} (h : rBg C M nb kc) (hC : ∀ i, i < 7 ∨ 1200 ≤ i → C' i = C i) (hM : ∀ i, 29 ≤ i → M' i = M i) : rBg C' M' nb kc := by
  obtain ⟨a0, a1, a2, a3, a4, a5, a6, a7, a8, a9, a10⟩ := h
  have e31 := hM 31 (by omega)
  have e32 := hM 32 (by omega)
  have e33 := hM 33 (by omega)
  refine ⟨a0, by rw [hC 6 (by omega)]; exact a1, by rw [hM 29 (by omega)]; exact a2, a3, fun b hb => by rw [hC 5 (by omega)]; exact a4 b hb, fun b hb => by rw [hM 30 (by omega)]; exact a5 b hb, fun b hb k hk => by rw [hC (1200 + b) (by omega), e31]; exact a6 b hb k hk, fun b hb k hk => by rw [hC (1300 + b) (by omega), e32]; exact a7 b hb k hk, fun b hb k hk => by rw [hC (1400 + b) (by omega), e33]; exact a8 b hb k hk, fun b hb => ?_, fun b hb => ?_⟩
  · rw [hC 3 (by omega), a9 b hb]; exact mS1_congr _ (fun k _ => ⟨by rw [e31], by rw [e32]⟩)
  · rw [hC 4 (by omega), a10 b hb]; exact mS1_congr _ (fun k _ => ⟨by rw [e31], by rw [e33]⟩)
abbrev rOk (C S : Nat → Nat → Int32) (nc np : Nat) (bt : Nat → Nat) (nbx : Nat) (r cx : Nat → Nat) : Prop := (rG r np nbx) ∧ (C 503 0 = nI nbx) ∧ (rTab C bt np nbx r cx) ∧ (∀ b, b < nbx → cx b < nc) ∧ (S 25 0 = nI nbx) ∧ (∀ q, q < np → S 26 q = nI (r q)) ∧ (∀ b, b < nbx → S 23 (sB r b np) = nI (cx b))
theorem rOk.g {C S : Nat → Nat → Int32} {nc np : Nat} {bt : Nat → Nat} {nbx : Nat} {r cx : Nat → Nat} (h0 : rOk C S nc np bt nbx r cx) : rG r np nbx := h0.1
theorem rOk.c3 {C S : Nat → Nat → Int32} {nc np : Nat} {bt : Nat → Nat} {nbx : Nat} {r cx : Nat → Nat} (h0 : rOk C S nc np bt nbx r cx) : C 503 0 = nI nbx := h0.2.1
theorem rOk.tab {C S : Nat → Nat → Int32} {nc np : Nat} {bt : Nat → Nat} {nbx : Nat} {r cx : Nat → Nat} (h0 : rOk C S nc np bt nbx r cx) : rTab C bt np nbx r cx := h0.2.2.1
theorem rOk.cc {C S : Nat → Nat → Int32} {nc np : Nat} {bt : Nat → Nat} {nbx : Nat} {r cx : Nat → Nat} (h0 : rOk C S nc np bt nbx r cx) : ∀ b, b < nbx → cx b < nc := h0.2.2.2.1
theorem rOk.s5 {C S : Nat → Nat → Int32} {nc np : Nat} {bt : Nat → Nat} {nbx : Nat} {r cx : Nat → Nat} (h0 : rOk C S nc np bt nbx r cx) : S 25 0 = nI nbx := h0.2.2.2.2.1
theorem rOk.s6 {C S : Nat → Nat → Int32} {nc np : Nat} {bt : Nat → Nat} {nbx : Nat} {r cx : Nat → Nat} (h0 : rOk C S nc np bt nbx r cx) : ∀ q, q < np → S 26 q = nI (r q) := h0.2.2.2.2.2.1
theorem rOk.s3 {C S : Nat → Nat → Int32} {nc np : Nat} {bt : Nat → Nat} {nbx : Nat} {r cx : Nat → Nat} (h0 : rOk C S nc np bt nbx r cx) : ∀ b, b < nbx → S 23 (sB r b np) = nI (cx b) := h0.2.2.2.2.2.2
def rKeep (i : Nat) : Prop := 1 ≤ i ∧ (i < 15 ∨ 22 < i) ∧ i ≠ 23 ∧ i ≠ 24 ∧ i ≠ 25 ∧ i ≠ 26 ∧ i ≠ 27 ∧ i ≠ 28
def rRan (C : Nat → Nat → Int32) (nc np : Nat) (bt bs : Nat → Nat) : Prop := ∀ M, rD C M nc np bt bs → ∃ NI, mOK np NI (mRun0 M bt nc np (2 ^ np)) ∧ (∀ i, rKeep i → (mIter np NI (mRun0 M bt nc np (2 ^ np))).1 i = M i) ∧ (fB01 (M 22) → fB01 ((mIter np NI (mRun0 M bt nc np (2 ^ np))).1 22)) ∧
  ((C 503 0 = -1 ∧ (mIter np NI (mRun0 M bt nc np (2 ^ np))).2 = -1) ∨ ∃ nbx r cx, ¬ (mIter np NI (mRun0 M bt nc np (2 ^ np))).2 < 0 ∧ rOk C (mIter np NI (mRun0 M bt nc np (2 ^ np))).1 nc np bt nbx r cx)
def rSs (C M : Nat → Nat → Int32) (nc np : Nat) (bt bs : Nat → Nat) : Prop := (C 502 0 = 0 ∧ C 503 0 = -1 ∧ M 24 0 = 0) ∨ (C 502 0 = 1 ∧ rRan C nc np bt bs ∧ ((C 503 0 = -1 ∧ M 24 0 = 0) ∨ ∃ nbx r cx, M 24 0 = 1 ∧ rOk C M nc np bt nbx r cx))
abbrev rAll (C M : Nat → Nat → Int32) (nc np nb : Nat) (bt bs kc : Nat → Nat) : Prop := (rD C M nc np bt bs) ∧ (rBg C M nb kc) ∧ (∀ b, b < 8 → C 402 b = 0) ∧ (fB01 (C 205)) ∧ (fB01 (M 22)) ∧ (rSs C M nc np bt bs)
theorem rAll.d {C M : Nat → Nat → Int32} {nc np nb : Nat} {bt bs kc : Nat → Nat} (h0 : rAll C M nc np nb bt bs kc) : rD C M nc np bt bs := h0.1
theorem rAll.b {C M : Nat → Nat → Int32} {nc np nb : Nat} {bt bs kc : Nat → Nat} (h0 : rAll C M nc np nb bt bs kc) : rBg C M nb kc := h0.2.1
theorem rAll.s {C M : Nat → Nat → Int32} {nc np nb : Nat} {bt bs kc : Nat → Nat} (h0 : rAll C M nc np nb bt bs kc) : ∀ b, b < 8 → C 402 b = 0 := h0.2.2.1
theorem rAll.c5 {C M : Nat → Nat → Int32} {nc np nb : Nat} {bt bs kc : Nat → Nat} (h0 : rAll C M nc np nb bt bs kc) : fB01 (C 205) := h0.2.2.2.1
theorem rAll.m2 {C M : Nat → Nat → Int32} {nc np nb : Nat} {bt bs kc : Nat → Nat} (h0 : rAll C M nc np nb bt bs kc) : fB01 (M 22) := h0.2.2.2.2.1
theorem rAll.h {C M : Nat → Nat → Int32} {nc np nb : Nat} {bt bs kc : Nat → Nat} (h0 : rAll C M nc np nb bt bs kc) : rSs C M nc np bt bs := h0.2.2.2.2.2
def Rel (C M : Nat → Nat → Int32) : Prop := ∃ nc np nb bt bs kc, rAll C M nc np nb bt bs kc
theorem rOk.mv {C C' S S' : Nat → Nat → Int32} {nc np nbx : Nat} {bt r cx : Nat → Nat} (h : rOk C S nc np bt nbx r cx) (hn : np ≤ 8) (h1 : ∀ i, rCi i → C' i = C i) (h2 : C' 503 0 = C 503 0) (h4 : C' 504 0 = C 504 0) (h3 : ∀ i, 1000 ≤ i → i < 1200 → C' i = C i) (e5 : S' 25 = S 25) (e6 : S' 26 = S 26) (e3 : S' 23 = S 23) : rOk C' S' nc np bt nbx r cx := by
  have hle := h.g.le
  exact ⟨h.g, by rw [h2]; exact h.c3, h.tab.mv h1 h4 h3 (by omega) hn, h.cc, by rw [e5]; exact h.s5, fun q hq => by rw [e6]; exact h.s6 q hq, fun b hb => by rw [e3]; exact h.s3 b hb⟩
theorem rRan.mv {C C' : Nat → Nat → Int32} {nc np : Nat} {bt bs : Nat → Nat} (h : rRan C nc np bt bs) (h1 : ∀ i, rCi i → C' i = C i) (h2 : C' 503 0 = C 503 0) (h4 : C' 504 0 = C 504 0) (h3 : ∀ i, 1000 ≤ i → i < 1200 → C' i = C i) : rRan C' nc np bt bs := by
  intro M hd
  obtain ⟨NI, a1, a2, a3, a4⟩ := h M (hd.mv (fun i hi => (h1 i hi).symm) (fun _ _ _ => rfl))
  refine ⟨NI, a1, a2, a3, ?_⟩
  rcases a4 with ⟨b1, b2⟩ | ⟨nbx, r, cx, b1, b2⟩
  · exact Or.inl ⟨by rw [h2]; exact b1, b2⟩
  · exact Or.inr ⟨nbx, r, cx, b1, b2.mv hd.np8 h1 h2 h4 h3 rfl rfl rfl⟩
theorem rAll.mv {C M C' M' : Nat → Nat → Int32} {nc np nb : Nat} {bt bs kc : Nat → Nat} (h : rAll C M nc np nb bt bs kc) (hC : ∀ i, i ≤ 200 ∨ 208 < i → C' i = C i) (h5 : fB01 (C' 205)) (hM : ∀ i, 1 ≤ i → (i < 15 ∨ 22 < i) → i ≠ 27 → i ≠ 28 → M' i = M i) (h22 : fB01 (M' 22)) : rAll C' M' nc np nb bt bs kc := by
  obtain ⟨d, b, s, c5, m2, hh⟩ := h
  have q1 : ∀ i, rCi i → C' i = C i := fun i hi => hC i (by rcases hi with z | z | z <;> omega)
  have q2 : C' 503 0 = C 503 0 := by rw [hC 503 (by omega)]
  have q4 : C' 504 0 = C 504 0 := by rw [hC 504 (by omega)]
  have q3 : ∀ i, 1000 ≤ i → i < 1200 → C' i = C i := fun i h1 h2 => hC i (by omega)
  have e2 : C' 502 0 = C 502 0 := by rw [hC 502 (by omega)]
  have e24 : M' 24 0 = M 24 0 := by rw [hM 24 (by omega) (by omega) (by omega) (by omega)]
  refine ⟨d.mv q1 (fun i h1 h2 => hM i h1 (by omega) (by omega) (by omega)), b.mv (fun i hi => hC i (by omega)) (fun i hi => hM i (by omega) (by omega) (by omega) (by omega)), fun b hb => by rw [hC 402 (by omega)]; exact s b hb, h5, h22, ?_⟩
  rcases hh with ⟨a1, a2, a3⟩ | ⟨a1, a2, a3⟩
  · exact Or.inl ⟨by rw [e2]; exact a1, by rw [q2]; exact a2, by rw [e24]; exact a3⟩
  · refine Or.inr ⟨by rw [e2]; exact a1, a2.mv q1 q2 q4 q3, ?_⟩
    rcases a3 with ⟨b1, b2⟩ | ⟨nbx, r, cx, b1, b2⟩
    · exact Or.inl ⟨by rw [q2]; exact b1, by rw [e24]; exact b2⟩
    · exact Or.inr ⟨nbx, r, cx, by rw [e24]; exact b1, b2.mv d.np8 q1 q2 q4 q3 (hM 25 (by omega) (by omega) (by omega) (by omega)) (hM 26 (by omega) (by omega) (by omega) (by omega)) (hM 23 (by omega) (by omega) (by omega) (by omega))⟩
theorem rAll.m0 {C M : Nat → Nat → Int32} {nc np nb : Nat} {bt bs kc : Nat → Nat} (h : rAll C M nc np nb bt bs kc) (x : Int32) : rAll C (gSt M 0 0 x) nc np nb bt bs kc :=
  h.mv (fun _ _ => rfl) h.c5 (fun i h1 _ _ _ => gSt_ne _ _ _ _ (by omega)) (by rw [gSt_ne _ _ _ _ (by omega)]; exact h.m2)
/-! run -/
def zN (Z : Nat → Nat → Int32) : Nat := (Z 407 0).toNatClampNeg
def zS (Z : Nat → Nat → Int32) (b : Nat) : Nat := (Z 403 b).toNatClampNeg
def zC (Z : Nat → Nat → Int32) (b : Nat) : Nat := (Z 400 (zS Z b)).toNatClampNeg
theorem fTake_congr (σ : Nat → Nat → Int32) (bt : Nat → Nat) {sx sx' cx cx' : Nat → Nat} (np nbx : Nat) : ∀ b, (∀ i, i < b → sx i = sx' i ∧ cx i = cx' i) → fTake σ bt sx cx np nbx b = fTake σ bt sx' cx' np nbx b
  | 0, _ => rfl
  | b + 1, h => by
    unfold fTake
    rw [fTake_congr σ bt np nbx b (fun i hi => h i (by omega))]
    obtain ⟨h1, h2⟩ := h b (by omega)
    unfold fTkV fTkW fTkX fTkZ
    rw [h1, h2]
theorem rRun3 {C : Nat → Nat → Int32} {nc np : Nat} {bt bs : Nat → Nat} (hs : ∀ b, b < 8 → C 402 b = 0) (h8 : np ≤ 8) (h4 : nc ≤ 4) :
    rRan (fTakeU (fRunZ C bt nc np (2 ^ np - 1)) bt (zS (fRunZ C bt nc np (2 ^ np - 1))) (zC (fRunZ C bt nc np (2 ^ np - 1))) np (zN (fRunZ C bt nc np (2 ^ np - 1)))) nc np bt bs := by
  intro M hd0
  have hfix : ∀ i, i < 500 → i ≠ 400 → i ≠ 401 → i ≠ 402 → i ≠ 403 → i ≠ 404 → i ≠ 405 → i ≠ 406 → i ≠ 407 → (i ≤ 200 ∨ 208 < i) → fRunZ C bt nc np (2 ^ np - 1) i = C i := fun i h1 h2 h3 h4 h5 h6 h7 h8 h9 h10 => by
    unfold fRunZ
    rw [fShr_fix h4 h5 h8 h9]
    unfold fFind0
    rw [gSt_ne _ _ _ _ h9, gSt_ne _ _ _ _ h8, fFS_fix _ _ _ _ h10 h2 h3 h6 h7]
  have hfix2 : ∀ i, rCi i → fTakeU (fRunZ C bt nc np (2 ^ np - 1)) bt (zS (fRunZ C bt nc np (2 ^ np - 1))) (zC (fRunZ C bt nc np (2 ^ np - 1))) np (zN (fRunZ C bt nc np (2 ^ np - 1))) i = C i := fun i hi => by
    have e1 : i < 309 := by rcases hi with z | z | z <;> omega
    have e2 : i ≤ 200 ∨ 208 < i := by rcases hi with z | z | z <;> omega
    rw [← hfix i (by omega) (by omega) (by omega) (by omega) (by omega) (by omega) (by omega) (by omega) (by omega) e2]
    unfold fTakeU
    split
    · rw [gSt_ne _ _ _ _ (by omega), gSt_ne _ _ _ _ (by omega), gSt_ne _ _ _ _ (by omega)]
    · exact fTake_fix _ _ _ _ _ _ e2 (by omega) (by omega) (by omega) (by omega) _
  have hd : rD C M nc np bt bs := hd0.mv (fun i hi => (hfix2 i hi).symm) (fun _ _ _ => rfl)
  obtain ⟨NI, a1, a2, a3, a4, a5⟩ := rRun2 hd hs
  refine ⟨NI, a1, fun i hi => ?_, fun h22 => ?_, ?_⟩
  · obtain ⟨k1, k2, k3, k4, k5, k6, k7, k8⟩ := hi
    rw [a4 i k5 k6 k7 k8, mFBs_fix _ _ _ _ k2 k3, gSt_ne _ _ _ _ (by omega)]
  · rw [a4 22 (by omega) (by omega) (by omega) (by omega)]
    exact mFBs_22 _ _ _ _ (by rw [gSt_ne _ _ _ _ (by omega)]; exact h22) _
  · rcases a5 with ⟨b1, b2⟩ | ⟨nbx, r, cx, b1, b2⟩
    · refine Or.inl ⟨?_, b2⟩
      unfold fTakeU
      rw [if_pos b1]
      simp [gS]
    · have hle := b2.g.le
      have e1 : zN (fRunZ C bt nc np (2 ^ np - 1)) = nbx := by unfold zN; rw [b2.z7, nI_clamp (by omega)]
      have h28 := p28 h8
      have e2 : ∀ b, b < nbx → zS (fRunZ C bt nc np (2 ^ np - 1)) b = sB r b np := fun b hb => by
        unfold zS; rw [b2.z3 b hb, nI_clamp (by have := sB_lt r b np; omega)]
      have e3 : ∀ b, b < nbx → zC (fRunZ C bt nc np (2 ^ np - 1)) b = cx b := fun b hb => by
        unfold zC; rw [e2 b hb, b2.z0 b hb, nI_clamp (by have := b2.c b hb; omega)]
      refine Or.inr ⟨nbx, r, cx, b1, ?_⟩
      have e4 : fTakeU (fRunZ C bt nc np (2 ^ np - 1)) bt (zS (fRunZ C bt nc np (2 ^ np - 1))) (zC (fRunZ C bt nc np (2 ^ np - 1))) np (zN (fRunZ C bt nc np (2 ^ np - 1))) = fTake (fRunZ C bt nc np (2 ^ np - 1)) bt (fun b => sB r b np) cx np nbx nbx := by
        unfold fTakeU
        rw [if_neg (by rw [b2.z7]; exact nI_nm1 (by omega)), e1]
        exact fTake_congr _ _ _ _ _ (fun i hi => ⟨e2 i hi, e3 i hi⟩)
      rw [e4]
      exact ⟨b2.g, (fTake_5 _ _ _ _ _ _ _).2, fTab h8 b2.g nbx (Nat.le_refl _), b2.c, b2.s5, b2.s6, b2.s3⟩
theorem rRun4 {C M : Nat → Nat → Int32} {nc np nb : Nat} {bt bs kc : Nat → Nat} (h : rAll C M nc np nb bt bs kc) (hr : rRan C nc np bt bs) (h2 : C 502 0 = 1) : ∃ NI, mOK np NI (mRun0 M bt nc np (2 ^ np)) ∧ mRunR (mIter np NI (mRun0 M bt nc np (2 ^ np))) = C 503 0 ∧ rAll C (mRunU (mIter np NI (mRun0 M bt nc np (2 ^ np)))) nc np nb bt bs kc := by
  obtain ⟨NI, a1, a2, a3, a4⟩ := hr M h.d
  refine ⟨NI, a1, ?_⟩
  generalize mIter np NI (mRun0 M bt nc np (2 ^ np)) = Z at *
  obtain ⟨d, b, s, c5, m2, hh⟩ := h
  have u : ∀ i, i ≠ 24 → mRunU Z i = Z.1 i := fun i hi => by unfold mRunU; rw [gSt_ne _ _ _ _ hi]
  have keep : ∀ i, rKeep i → mRunU Z i = M i := fun i hi => by rw [u i (by unfold rKeep at hi; omega)]; exact a2 i hi
  have base : ∀ x : rSs C (mRunU Z) nc np bt bs, rAll C (mRunU Z) nc np nb bt bs kc := fun x =>
    ⟨d.mv (fun _ _ => rfl) (fun i h1 h2 => keep i (by unfold rKeep; omega)), b.mv (fun _ _ => rfl) (fun i hi => keep i (by unfold rKeep; omega)), s, c5, by rw [u 22 (by omega)]; exact a3 m2, x⟩
  rcases a4 with ⟨b1, b2⟩ | ⟨nbx, r, cx, b1, b2⟩
  · refine ⟨by unfold mRunR; rw [b2, if_pos u_m1lt, b1], base (Or.inr ⟨h2, hr, Or.inl ⟨b1, ?_⟩⟩)⟩
    unfold mRunU
    rw [gSt_eq, pk_us, b2, if_pos u_m1lt]
  · refine ⟨by unfold mRunR; rw [if_neg b1, b2.s5, b2.c3], base (Or.inr ⟨h2, hr, Or.inr ⟨nbx, r, cx, ?_, ?_⟩⟩)⟩
    · unfold mRunU
      rw [gSt_eq, pk_us, if_neg b1]
    · exact b2.mv d.np8 (fun _ _ => rfl) rfl rfl (fun _ _ _ => rfl) (u 25 (by omega)) (u 26 (by omega)) (u 23 (by omega))
theorem fTakeU_fix (σ : Nat → Nat → Int32) (bt sx cx : Nat → Nat) (np nbx : Nat) {i : Nat} (h : i ≤ 200 ∨ 208 < i) (h1 : i < 1000) (h2 : i ≠ 502) (h3 : i ≠ 503) (h4 : i ≠ 504) : fTakeU σ bt sx cx np nbx i = σ i := by
  unfold fTakeU
  split
  · rw [gSt_ne _ _ _ _ h4, gSt_ne _ _ _ _ h3, gSt_ne _ _ _ _ h2]
  · exact fTake_fix _ _ _ _ _ _ h h1 h2 h3 h4 _
theorem fTakeU_hi (σ : Nat → Nat → Int32) (bt sx cx : Nat → Nat) (np : Nat) {nbx i : Nat} (hn : np ≤ 8) (hb : nbx ≤ 8) (h : 1200 ≤ i) : fTakeU σ bt sx cx np nbx i = σ i := by
  unfold fTakeU
  split
  · rw [gSt_ne _ _ _ _ (by omega), gSt_ne _ _ _ _ (by omega), gSt_ne _ _ _ _ (by omega)]
  · have : ∀ b, b ≤ nbx → fTake σ bt sx cx np nbx b i = σ i := by
      intro b
      induction b with
      | zero => intro _; unfold fTake; rw [gSt_ne _ _ _ _ (by omega), gSt_ne _ _ _ _ (by omega), gSt_ne _ _ _ _ (by omega)]
      | succ b ih =>
        intro hb2
        unfold fTake fTkV
        rw [(fTell_s _ _ _ _ _ np).2 i (Or.inr (Or.inl (by omega)))]
        unfold fTkW fTB fTB4 fTB3 fTB2 fTB1 fTkZ fTkX
        rw [gSt_ne _ _ _ _ (by omega), gSt_ne _ _ _ _ (by omega), gSt_ne _ _ _ _ (by omega), gSt_ne _ _ _ _ (by omega), gSt_ne _ _ _ _ (by omega), gSt_ne _ _ _ _ (by omega), fPk_fix _ _ _ _ (by omega)]
        exact ih (by omega)
    exact this nbx (Nat.le_refl _)
theorem u_shl : ∀ n, n ≤ 8 → (1 : Int32) <<< (nI n &&& 31) = nI (2 ^ n) := by decide +kernel
/-- run, over every pair of related states -/
theorem rRunAll {C M : Nat → Nat → Int32} {nc np nb : Nat} {bt bs kc : Nat → Nat} (h : rAll C M nc np nb bt bs kc) :
    ∃ (sx cx : Nat → Nat) (nbx NI : Nat), (C 502 0 = 0 → (fRunZ C bt nc np (2 ^ np - 1) 308 0 = nI np ∧ (∀ k, k < np → fRunZ C bt nc np (2 ^ np - 1) 306 k = nI (bt k) ∧ bt k < 8) ∧ (fRunZ C bt nc np (2 ^ np - 1) 407 0 = -1 ∨ fTkOK (fRunZ C bt nc np (2 ^ np - 1)) sx cx nbx) ∧ fB01 (fRunZ C bt nc np (2 ^ np - 1) 205))) ∧
      mOK np NI (mRun0 M bt nc np (2 ^ np)) ∧ mRunR (mIter np NI (mRun0 M bt nc np (2 ^ np))) = fRunU C bt sx cx nc np (2 ^ np - 1) nbx 503 0 ∧
      rAll (fRunU C bt sx cx nc np (2 ^ np - 1) nbx) (mRunU (mIter np NI (mRun0 M bt nc np (2 ^ np)))) nc np nb bt bs kc := by
  have h8 := h.d.np8
  have h4 := h.d.nc4
  rcases h.h with ⟨s2, s3, s24⟩ | ⟨s2, s3, s4⟩
  · have hrz : ∀ i, i ≠ 400 → i ≠ 401 → i ≠ 402 → i ≠ 403 → i ≠ 404 → i ≠ 405 → i ≠ 406 → i ≠ 407 → (i ≤ 200 ∨ 208 < i) → fRunZ C bt nc np (2 ^ np - 1) i = C i := fun i h2 h3 h4 h5 h6 h7 h8 h9 h10 => by
      unfold fRunZ
      rw [fShr_fix h4 h5 h8 h9]
      unfold fFind0
      rw [gSt_ne _ _ _ _ h9, gSt_ne _ _ _ _ h8, fFS_fix _ _ _ _ h10 h2 h3 h6 h7]
    have h205 : fB01 (fRunZ C bt nc np (2 ^ np - 1) 205) := by
      unfold fRunZ
      rw [fShr_fix (by omega) (by omega) (by omega) (by omega)]
      exact fFind_205 _ _ _ _ _ h.c5
    obtain ⟨NI0, a1, a2, a3, a4, a5⟩ := rRun2 h.d h.s
    have hran := rRun3 (C := C) (nc := nc) (np := np) (bt := bt) (bs := bs) h.s h8 h4
    have hnb : fRunZ C bt nc np (2 ^ np - 1) 407 0 = -1 ∨ (zN (fRunZ C bt nc np (2 ^ np - 1)) ≤ 8 ∧ fTkOK (fRunZ C bt nc np (2 ^ np - 1)) (zS (fRunZ C bt nc np (2 ^ np - 1))) (zC (fRunZ C bt nc np (2 ^ np - 1))) (zN (fRunZ C bt nc np (2 ^ np - 1)))) := by
      rcases a5 with ⟨b1, b2⟩ | ⟨nbx, r, cx, b1, b2⟩
      · exact Or.inl b1
      · right
        have hle := b2.g.le
        have e1 : zN (fRunZ C bt nc np (2 ^ np - 1)) = nbx := by unfold zN; rw [b2.z7, nI_clamp (by omega)]
        have h28 := p28 h8
        have e2 : ∀ b, b < nbx → zS (fRunZ C bt nc np (2 ^ np - 1)) b = sB r b np := fun b hb => by
          unfold zS; rw [b2.z3 b hb, nI_clamp (by have := sB_lt r b np; omega)]
        have e3 : ∀ b, b < nbx → zC (fRunZ C bt nc np (2 ^ np - 1)) b = cx b := fun b hb => by
          unfold zC; rw [e2 b hb, b2.z0 b hb, nI_clamp (by have := b2.c b hb; omega)]
        rw [e1]
        refine ⟨by omega, b2.z7, by omega, fun b hb => ?_⟩
        rw [e2 b hb, e3 b hb]
        exact ⟨b2.z3 b hb, by have := sB_lt r b np; omega, b2.z0 b hb, by have := b2.c b hb; omega⟩
    have eU : fRunU C bt (zS (fRunZ C bt nc np (2 ^ np - 1))) (zC (fRunZ C bt nc np (2 ^ np - 1))) nc np (2 ^ np - 1) (zN (fRunZ C bt nc np (2 ^ np - 1))) = fTakeU (fRunZ C bt nc np (2 ^ np - 1)) bt (zS (fRunZ C bt nc np (2 ^ np - 1))) (zC (fRunZ C bt nc np (2 ^ np - 1))) np (zN (fRunZ C bt nc np (2 ^ np - 1))) := by unfold fRunU; rw [if_pos s2]
    have hhi : ∀ i, 1200 ≤ i → fTakeU (fRunZ C bt nc np (2 ^ np - 1)) bt (zS (fRunZ C bt nc np (2 ^ np - 1))) (zC (fRunZ C bt nc np (2 ^ np - 1))) np (zN (fRunZ C bt nc np (2 ^ np - 1))) i = fRunZ C bt nc np (2 ^ np - 1) i := fun i hi => by
      rcases hnb with z | ⟨z, -⟩
      · unfold fTakeU
        rw [if_pos z, gSt_ne _ _ _ _ (by omega), gSt_ne _ _ _ _ (by omega), gSt_ne _ _ _ _ (by omega)]
      · exact fTakeU_hi _ _ _ _ _ h8 z hi
    have h502 : fTakeU (fRunZ C bt nc np (2 ^ np - 1)) bt (zS (fRunZ C bt nc np (2 ^ np - 1))) (zC (fRunZ C bt nc np (2 ^ np - 1))) np (zN (fRunZ C bt nc np (2 ^ np - 1))) 502 0 = 1 := by
      unfold fTakeU
      split
      · simp [gS]
      · exact (fTake_5 _ _ _ _ _ _ _).1
    have hc205 : fB01 (fTakeU (fRunZ C bt nc np (2 ^ np - 1)) bt (zS (fRunZ C bt nc np (2 ^ np - 1))) (zC (fRunZ C bt nc np (2 ^ np - 1))) np (zN (fRunZ C bt nc np (2 ^ np - 1))) 205) := by
      unfold fTakeU
      split
      · rw [gSt_ne _ _ _ _ (by omega), gSt_ne _ _ _ _ (by omega), gSt_ne _ _ _ _ (by omega)]; exact h205
      · exact fTake_205 _ _ _ _ _ _ h205 _
    have hdat : ∀ i, rCi i → fTakeU (fRunZ C bt nc np (2 ^ np - 1)) bt (zS (fRunZ C bt nc np (2 ^ np - 1))) (zC (fRunZ C bt nc np (2 ^ np - 1))) np (zN (fRunZ C bt nc np (2 ^ np - 1))) i = C i := fun i hi => by
      have e1 : i < 309 := by rcases hi with z | z | z <;> omega
      have e2 : i ≤ 200 ∨ 208 < i := by rcases hi with z | z | z <;> omega
      rw [fTakeU_fix _ _ _ _ _ _ e2 (by omega) (by omega) (by omega) (by omega), hrz i (by omega) (by omega) (by omega) (by omega) (by omega) (by omega) (by omega) (by omega) e2]
    have hbg : rBg (fTakeU (fRunZ C bt nc np (2 ^ np - 1)) bt (zS (fRunZ C bt nc np (2 ^ np - 1))) (zC (fRunZ C bt nc np (2 ^ np - 1))) np (zN (fRunZ C bt nc np (2 ^ np - 1)))) M nb kc := h.b.mv (fun i hi => by
      rcases hi with z | z
      · rw [fTakeU_fix _ _ _ _ _ _ (by omega) (by omega) (by omega) (by omega) (by omega), hrz i (by omega) (by omega) (by omega) (by omega) (by omega) (by omega) (by omega) (by omega) (by omega)]
      · rw [hhi i z, hrz i (by omega) (by omega) (by omega) (by omega) (by omega) (by omega) (by omega) (by omega) (by omega)]) (fun _ _ => rfl)
    have h402 : ∀ b, b < 8 → fTakeU (fRunZ C bt nc np (2 ^ np - 1)) bt (zS (fRunZ C bt nc np (2 ^ np - 1))) (zC (fRunZ C bt nc np (2 ^ np - 1))) np (zN (fRunZ C bt nc np (2 ^ np - 1))) 402 b = 0 := fun b hb => by
      rw [fTakeU_fix _ _ _ _ _ _ (by omega) (by omega) (by omega) (by omega) (by omega)]; exact a3 b hb
    have hd' := h.d.mv (M' := M) hdat (fun _ _ _ => rfl)
    obtain ⟨NI, c1, c2, c3, c4⟩ := hran M hd'
    refine ⟨zS (fRunZ C bt nc np (2 ^ np - 1)), zC (fRunZ C bt nc np (2 ^ np - 1)), zN (fRunZ C bt nc np (2 ^ np - 1)), ?_⟩
    rw [eU]
    generalize fTakeU (fRunZ C bt nc np (2 ^ np - 1)) bt (zS (fRunZ C bt nc np (2 ^ np - 1))) (zC (fRunZ C bt nc np (2 ^ np - 1))) np (zN (fRunZ C bt nc np (2 ^ np - 1))) = C' at *
    refine ⟨NI, fun _ => ⟨?_, ?_, ?_, h205⟩, c1, ?_⟩
    · rw [hrz 308 (by omega) (by omega) (by omega) (by omega) (by omega) (by omega) (by omega) (by omega) (by omega)]; exact h.d.pN
    · intro k hk
      have := h.d.ob.lt k hk
      rw [hrz 306 (by omega) (by omega) (by omega) (by omega) (by omega) (by omega) (by omega) (by omega) (by omega)]
      exact ⟨h.d.hb k hk, by omega⟩
    · rcases hnb with z | ⟨-, z⟩
      · exact Or.inl z
      · exact Or.inr z
    · generalize mIter np NI (mRun0 M bt nc np (2 ^ np)) = Z at *
      have u : ∀ i, i ≠ 24 → mRunU Z i = Z.1 i := fun i hi => by unfold mRunU; rw [gSt_ne _ _ _ _ hi]
      have keep : ∀ i, rKeep i → mRunU Z i = M i := fun i hi => by rw [u i (by unfold rKeep at hi; omega)]; exact c2 i hi
      have base : ∀ x : rSs C' (mRunU Z) nc np bt bs, rAll C' (mRunU Z) nc np nb bt bs kc := fun x =>
        ⟨hd'.mv (fun _ _ => rfl) (fun i h1 h2 => keep i (by unfold rKeep; omega)), hbg.mv (fun _ _ => rfl) (fun i hi => keep i (by unfold rKeep; omega)), h402, hc205, by rw [u 22 (by omega)]; exact c3 h.m2, x⟩
      rcases c4 with ⟨b1, b2⟩ | ⟨nbx, r, cx, b1, b2⟩
      · refine ⟨by unfold mRunR; rw [b2, if_pos u_m1lt, b1], base (Or.inr ⟨h502, hran, Or.inl ⟨b1, ?_⟩⟩)⟩
        unfold mRunU
        rw [gSt_eq, pk_us, b2, if_pos u_m1lt]
      · refine ⟨by unfold mRunR; rw [if_neg b1, b2.s5, b2.c3], base (Or.inr ⟨h502, hran, Or.inr ⟨nbx, r, cx, ?_, ?_⟩⟩)⟩
        · unfold mRunU
          rw [gSt_eq, pk_us, if_neg b1]
        · exact b2.mv h8 (fun _ _ => rfl) rfl rfl (fun _ _ _ => rfl) (u 25 (by omega)) (u 26 (by omega)) (u 23 (by omega))
  · obtain ⟨NI, a1, a2, a3⟩ := rRun4 h s3 s2
    have e0 : ¬ C 502 0 = 0 := by rw [s2]; decide
    have eU : ∀ sx cx nbx, fRunU C bt sx cx nc np (2 ^ np - 1) nbx = C := fun _ _ _ => by unfold fRunU; rw [if_neg e0]
    refine ⟨fun _ => 0, fun _ => 0, 0, NI, fun z => absurd z e0, a1, ?_, ?_⟩
    · rw [eU]; exact a2
    · rw [eU]; exact a3
end
