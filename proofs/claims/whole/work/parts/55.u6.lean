section
/-! pure part 6: run -/
theorem mZr_27 (τ : Nat → Nat → Int32) : ∀ k i, i < k → mZr τ k 27 i = 0
  | 0, i, h => by omega
  | k + 1, i, h => by
    unfold mZr
    rw [gSt_eq]
    by_cases c : i = k
    · subst c; rw [pk_us]
    · rw [pk_un c]; exact mZr_27 τ k i (by omega)
theorem mZr_fix (τ : Nat → Nat → Int32) {i : Nat} (h : i ≠ 27) : ∀ k, mZr τ k i = τ i
  | 0 => rfl
  | k + 1 => by unfold mZr; rw [gSt_ne _ _ _ _ h, mZr_fix τ h k]
theorem rRun {C M : Nat → Nat → Int32} {nc np : Nat} {bt bs : Nat → Nat} (h : rD C M nc np bt bs) (hs : ∀ b, b < 8 → C 402 b = 0) :
    ∃ (PR : Nat → Nat) (B : Nat × (Nat → Nat)) (NI : Nat), mOK np NI (mRun0 M bt nc np (2 ^ np)) ∧
      rCl (fFind0 C bt nc np (2 ^ np - 1)) (fRunZ C bt nc np (2 ^ np - 1)) PR np (fun _ => 0) 0 B ∧
      rMo (mFBs (gSt M 0 0 0) bt nc np (2 ^ np - 1)) (mIter np NI (mRun0 M bt nc np (2 ^ np))).1 (mIter np NI (mRun0 M bt nc np (2 ^ np))).2 np B ∧
      ∀ x, 1 ≤ x → x < 2 ^ np → rT (fFind0 C bt nc np (2 ^ np - 1)) (mFBs (gSt M 0 0 0) bt nc np (2 ^ np - 1)) nc x (PR x) := by
  have h8 := h.np8
  have hd : rD C (gSt M 0 0 0) nc np bt bs := h.mv (fun _ _ => rfl) (fun i h1 h2 => gSt_ne _ _ _ _ (by omega))
  obtain ⟨t1, lp, l7, el, t2⟩ := rFS hd (2 ^ np - 1)
  have hpos : 0 < 2 ^ np := Nat.pow_pos (by decide)
  have g0 : fFind0 C bt nc np (2 ^ np - 1) 400 = fFS C bt nc np (2 ^ np - 1) 400 := by unfold fFind0; rw [gSt_ne _ _ _ _ (by omega), gSt_ne _ _ _ _ (by omega)]
  have g1 : fFind0 C bt nc np (2 ^ np - 1) 401 = fFS C bt nc np (2 ^ np - 1) 401 := by unfold fFind0; rw [gSt_ne _ _ _ _ (by omega), gSt_ne _ _ _ _ (by omega)]
  have g5 : fFind0 C bt nc np (2 ^ np - 1) 405 = fFS C bt nc np (2 ^ np - 1) 405 := by unfold fFind0; rw [gSt_ne _ _ _ _ (by omega), gSt_ne _ _ _ _ (by omega)]
  have g2 : fFind0 C bt nc np (2 ^ np - 1) 402 = C 402 := by unfold fFind0; rw [gSt_ne _ _ _ _ (by omega), gSt_ne _ _ _ _ (by omega), fFS_fix C bt nc np (Or.inr (by omega)) (by omega) (by omega) (by omega) (by omega)]
  have hT : ∀ x, 1 ≤ x → x < 2 ^ np → rT (fFind0 C bt nc np (2 ^ np - 1)) (mFBs (gSt M 0 0 0) bt nc np (2 ^ np - 1)) nc x ((fFind0 C bt nc np (2 ^ np - 1) 401 x).toNatClampNeg) ∧ lp ≤ (fFind0 C bt nc np (2 ^ np - 1) 401 x).toNatClampNeg := by
    intro x h1 h2
    obtain ⟨p, hp⟩ := t1 x h1 (by omega)
    have e : (fFind0 C bt nc np (2 ^ np - 1) 401 x).toNatClampNeg = p := by rw [g1, hp.pr, nI_clamp (by have := hp.le; omega)]
    rw [e]
    exact ⟨⟨by rw [g1]; exact hp.pr, by rw [g0]; exact hp.or⟩, t2 x h1 (by omega) p hp⟩
  have hPR : rPR (fFind0 C bt nc np (2 ^ np - 1)) (fun x => (fFind0 C bt nc np (2 ^ np - 1) 401 x).toNatClampNeg) np lp :=
    ⟨h8, by rw [g5]; exact el, l7, fun x h1 h2 => ⟨(hT x h1 h2).1.pr, (hT x h1 h2).1.le, (hT x h1 h2).2⟩⟩
  have hMT : rMT (mFBs (gSt M 0 0 0) bt nc np (2 ^ np - 1)) (fun x => (fFind0 C bt nc np (2 ^ np - 1) 401 x).toNatClampNeg) np nc := by
    refine ⟨h8, h.nc4, ?_, fun x h1 h2 => ?_⟩
    · rw [mFBs_fix _ _ _ _ (Or.inl (by omega)) (by omega)]; exact hd.qN
    · rcases (hT x h1 h2).1.or with ⟨a1, a2, a3⟩ | ⟨c, y, a1, a2, a3, a4, a5, a6, a7⟩
      · exact Or.inl ⟨a2, a3⟩
      · exact Or.inr ⟨c, y, a1, a3, a4, a5, a6, a7⟩
  have hc0 : rCl (fFind0 C bt nc np (2 ^ np - 1)) (fFind0 C bt nc np (2 ^ np - 1)) (fun x => (fFind0 C bt nc np (2 ^ np - 1) 401 x).toNatClampNeg) np (fun _ => 0) 0 (7200009, fun _ => 0) := by
    refine ⟨fun _ _ _ _ _ => rfl, fun b hb => by rw [g2, hs b hb]; rfl, ?_, Or.inl ⟨rfl, ?_⟩⟩
    · simp [fFind0, gS, u_NO]
    · simp [fFind0, gS]
  have hm0 : rMo (mFBs (gSt M 0 0 0) bt nc np (2 ^ np - 1)) (mRun0 M bt nc np (2 ^ np)).1 (mRun0 M bt nc np (2 ^ np)).2 np (7200009, fun _ => 0) := by
    refine ⟨fun i a1 a2 a3 a4 => ?_, Or.inl ⟨rfl, rfl⟩⟩
    show gSt (mZr _ 8) 25 0 0 i = _
    rw [gSt_ne _ _ _ _ a1, mZr_fix _ a3]
  have ht0 : rTr (mRun0 M bt nc np (2 ^ np)).1 np (fun _ => 0) 0 := by
    intro i hi
    show gSt (mZr _ 8) 25 0 0 27 i = _
    rw [gSt_ne _ _ _ _ (by omega), mZr_27 _ 8 i (by omega), if_neg (by omega)]
    rfl
  have cls := rCl.shr hPR np 0 0 _ _ _ (by omega) (rG.zero _) hc0
  obtain ⟨N, τ', ls', n1, n2, n3⟩ := rMo.node hMT np 0 0 _ _ _ _ (by omega) (rG.zero _) hm0 ht0
  obtain ⟨n4, n5⟩ := n3 0
  have n6 : mIter np (N + 0) (mRun0 M bt nc np (2 ^ np)) = (τ', ls') := n4
  refine ⟨fun x => (fFind0 C bt nc np (2 ^ np - 1) 401 x).toNatClampNeg, sT _ np np 0 0 (fun _ => 0) (7200009, fun _ => 0), N + 0, n5 ?_, cls, ?_, fun x h1 h2 => (hT x h1 h2).1⟩
  · intro z
    exact absurd rfl z
  · rw [n6]; exact n1
theorem sV_part {PR r : Nat → Nat} {np : Nat} {b : Nat} : ∀ n, b < n → PR (sB r b np) ≤ sV PR r np n
  | 0, h => by omega
  | n + 1, h => by
    unfold sV
    by_cases c : b = n
    · subst c; omega
    · have := sV_part (PR := PR) (r := r) (np := np) n (show b < n by omega)
      omega
/-- what run found: nothing, or the shares r with the cartons cx -/
abbrev rSh (Z S : Nat → Nat → Int32) (nc np nbx : Nat) (r cx : Nat → Nat) : Prop := (rG r np nbx) ∧ (Z 407 0 = nI nbx) ∧ (∀ b, b < nbx → Z 403 b = nI (sB r b np)) ∧ (∀ b, b < nbx → Z 400 (sB r b np) = nI (cx b)) ∧ (∀ b, b < nbx → cx b < nc) ∧ (S 25 0 = nI nbx) ∧ (∀ q, q < np → S 26 q = nI (r q)) ∧ (∀ b, b < nbx → S 23 (sB r b np) = nI (cx b))
theorem rSh.g {Z S : Nat → Nat → Int32} {nc np nbx : Nat} {r cx : Nat → Nat} (h0 : rSh Z S nc np nbx r cx) : rG r np nbx := h0.1
theorem rSh.z7 {Z S : Nat → Nat → Int32} {nc np nbx : Nat} {r cx : Nat → Nat} (h0 : rSh Z S nc np nbx r cx) : Z 407 0 = nI nbx := h0.2.1
theorem rSh.z3 {Z S : Nat → Nat → Int32} {nc np nbx : Nat} {r cx : Nat → Nat} (h0 : rSh Z S nc np nbx r cx) : ∀ b, b < nbx → Z 403 b = nI (sB r b np) := h0.2.2.1
theorem rSh.z0 {Z S : Nat → Nat → Int32} {nc np nbx : Nat} {r cx : Nat → Nat} (h0 : rSh Z S nc np nbx r cx) : ∀ b, b < nbx → Z 400 (sB r b np) = nI (cx b) := h0.2.2.2.1
theorem rSh.c {Z S : Nat → Nat → Int32} {nc np nbx : Nat} {r cx : Nat → Nat} (h0 : rSh Z S nc np nbx r cx) : ∀ b, b < nbx → cx b < nc := h0.2.2.2.2.1
theorem rSh.s5 {Z S : Nat → Nat → Int32} {nc np nbx : Nat} {r cx : Nat → Nat} (h0 : rSh Z S nc np nbx r cx) : S 25 0 = nI nbx := h0.2.2.2.2.2.1
theorem rSh.s6 {Z S : Nat → Nat → Int32} {nc np nbx : Nat} {r cx : Nat → Nat} (h0 : rSh Z S nc np nbx r cx) : ∀ q, q < np → S 26 q = nI (r q) := h0.2.2.2.2.2.2.1
theorem rSh.s3 {Z S : Nat → Nat → Int32} {nc np nbx : Nat} {r cx : Nat → Nat} (h0 : rSh Z S nc np nbx r cx) : ∀ b, b < nbx → S 23 (sB r b np) = nI (cx b) := h0.2.2.2.2.2.2.2
theorem rRun2 {C M : Nat → Nat → Int32} {nc np : Nat} {bt bs : Nat → Nat} (h : rD C M nc np bt bs) (hs : ∀ b, b < 8 → C 402 b = 0) :
    ∃ NI : Nat, mOK np NI (mRun0 M bt nc np (2 ^ np)) ∧
      (∀ i, i ≠ 402 → i ≠ 403 → i ≠ 406 → i ≠ 407 → fRunZ C bt nc np (2 ^ np - 1) i = fFind0 C bt nc np (2 ^ np - 1) i) ∧
      (∀ b, b < 8 → fRunZ C bt nc np (2 ^ np - 1) 402 b = 0) ∧
      (∀ i, i ≠ 25 → i ≠ 26 → i ≠ 27 → i ≠ 28 → (mIter np NI (mRun0 M bt nc np (2 ^ np))).1 i = mFBs (gSt M 0 0 0) bt nc np (2 ^ np - 1) i) ∧
      ((fRunZ C bt nc np (2 ^ np - 1) 407 0 = -1 ∧ (mIter np NI (mRun0 M bt nc np (2 ^ np))).2 = -1) ∨
        ∃ nbx r cx, ¬ (mIter np NI (mRun0 M bt nc np (2 ^ np))).2 < 0 ∧ rSh (fRunZ C bt nc np (2 ^ np - 1)) (mIter np NI (mRun0 M bt nc np (2 ^ np))).1 nc np nbx r cx) := by
  obtain ⟨PR, B, NI, a1, a2, a3, a4⟩ := rRun h hs
  refine ⟨NI, a1, a2.fx, fun b hb => a2.s b hb, a3.fx, ?_⟩
  generalize mIter np NI (mRun0 M bt nc np (2 ^ np)) = Z at *
  rcases a2.v.2 with ⟨b1, b2⟩ | ⟨b1, b2, b3, b4, b5⟩
  · rcases a3.v with ⟨c1, c2⟩ | ⟨c1, -⟩
    · exact Or.inl ⟨b2, c2⟩
    · omega
  · rcases a3.v with ⟨c1, c2⟩ | ⟨c1, s, c2, c3, c4, c5, c6, c7⟩
    · omega
    · refine Or.inr ⟨sN B.2 np, B.2, fun b => (mFBs (gSt M 0 0 0) bt nc np (2 ^ np - 1) 23 (sB B.2 b np)).toNatClampNeg, by rw [c3]; exact nI_pos (by omega), ?_⟩
      have hT : ∀ b, b < sN B.2 np → ∃ c, c < nc ∧ fFind0 C bt nc np (2 ^ np - 1) 400 (sB B.2 b np) = nI c ∧ mFBs (gSt M 0 0 0) bt nc np (2 ^ np - 1) 23 (sB B.2 b np) = nI c := by
        intro b hb
        have hp := sV_part (PR := PR) (r := B.2) (np := np) (b := b) (sN B.2 np) hb
        rcases (a4 _ (b4.po b hb) (sB_lt B.2 b np)).or with ⟨-, -, e⟩ | ⟨c, y, e1, e2, e3, -⟩
        · omega
        · exact ⟨c, e1, e2, e3⟩
      have hc4 := h.nc4
      refine ⟨b4, b2, b3, fun b hb => ?_, fun b hb => ?_, c6, c7, fun b hb => ?_⟩
      · obtain ⟨c, e1, e2, e3⟩ := hT b hb
        show _ = nI (Int32.toNatClampNeg _)
        rw [e3, nI_clamp (by omega), a2.fx 400 (by omega) (by omega) (by omega) (by omega)]; exact e2
      · obtain ⟨c, e1, e2, e3⟩ := hT b hb
        show Int32.toNatClampNeg _ < _
        rw [e3, nI_clamp (by omega)]; exact e1
      · obtain ⟨c, e1, e2, e3⟩ := hT b hb
        show _ = nI (Int32.toNatClampNeg _)
        rw [a3.fx 23 (by omega) (by omega) (by omega) (by omega), e3, nI_clamp (by omega)]
theorem fPk205U (σ : Nat → Nat → Int32) (bt : Nat → Nat) (set : Int32) (c np : Nat) (h : fB01 (σ 205)) : fB01 (fHeldU σ bt set c np 205) := by
  unfold fHeldU
  split
  · exact h
  · split
    · exact h
    · exact fPk_205 σ bt set _ h np
theorem fCh_205 (σ : Nat → Nat → Int32) (bt : Nat → Nat) (st np : Nat) (h : fB01 (σ 205)) : ∀ c, fB01 (fCh σ bt st np c 205)
  | 0 => by unfold fCh; rw [gSt_ne _ _ _ _ (by omega), gSt_ne _ _ _ _ (by omega)]; exact h
  | c + 1 => by
    have ih := fCh_205 σ bt st np h c
    unfold fCh
    split
    · exact ih
    · split
      · exact fPk205U _ _ _ _ _ ih
      · rw [gSt_ne _ _ _ _ (by omega), gSt_ne _ _ _ _ (by omega)]; exact fPk205U _ _ _ _ _ ih
theorem fFS_205 (σ : Nat → Nat → Int32) (bt : Nat → Nat) (nc np : Nat) (h : fB01 (σ 205)) : ∀ j, fB01 (fFS σ bt nc np j 205)
  | 0 => by unfold fFS; rw [gSt_ne _ _ _ _ (by omega), gSt_ne _ _ _ _ (by omega)]; exact h
  | j + 1 => by
    unfold fFS
    rw [gSt_ne _ _ _ _ (by omega)]
    exact fCh_205 _ _ _ _ (fFS_205 σ bt nc np h j) nc
theorem fFind_205 (σ : Nat → Nat → Int32) (bt : Nat → Nat) (nc np m : Nat) (h : fB01 (σ 205)) : fB01 (fFind0 σ bt nc np m 205) := by
  unfold fFind0; rw [gSt_ne _ _ _ _ (by omega), gSt_ne _ _ _ _ (by omega)]; exact fFS_205 σ bt nc np h m
theorem mLay_22 (τ : Nat → Nat → Int32) (q j : Nat) (h : fB01 (τ 22)) : fB01 (mLay τ q j 22) := by
  intro i
  simp only [mLay, mLay2, mLay3, gS]
  simp
  by_cases c : i = j
  · subst c
    simp
    by_cases c1 : τ 22 i = 0 <;> by_cases c2 : τ 14 q = 0 <;> simp [c1, c2]
  · simp [c]; exact h i
theorem mPk_22 (σ : Nat → Nat → Int32) (bt : Nat → Nat) (set : Int32) (c : Nat) (h : fB01 (σ 22)) : ∀ k, fB01 ((mPk σ bt set c k).1 22)
  | 0 => by show fB01 (gSt σ 17 0 0 22); rw [gSt_ne _ _ _ _ (by omega)]; exact h
  | k + 1 => by
    have ih := mPk_22 σ bt set c h k
    unfold mPk
    split
    · exact ih
    · show fB01 (mPlace _ _ _ _ 22)
      unfold mPlace
      split
      · refine mLay_22 _ _ _ ?_
        unfold mOpen
        rw [gSt_ne _ _ _ _ (by omega), gSt_eq, gSt_ne _ _ _ _ (by omega), gSt_ne _ _ _ _ (by omega), gSt_ne _ _ _ _ (by omega), gSt_ne _ _ _ _ (by omega)]
        exact fB01_upd ih _ (Or.inl rfl)
      · exact mLay_22 _ _ _ ih
theorem mFB_22 (σ : Nat → Nat → Int32) (bt : Nat → Nat) (set : Int32) (np : Nat) (h : fB01 (σ 22)) : ∀ c, fB01 ((mFB σ bt set np c).1 22)
  | 0 => h
  | c + 1 => mPk_22 _ _ _ _ (mFB_22 σ bt set np h c) np
theorem mFBs_22 (σ : Nat → Nat → Int32) (bt : Nat → Nat) (nc np : Nat) (h : fB01 (σ 22)) : ∀ j, fB01 (mFBs σ bt nc np j 22)
  | 0 => h
  | j + 1 => by
    unfold mFBs
    rw [gSt_ne _ _ _ _ (by omega)]
    exact mFB_22 _ _ _ _ (mFBs_22 σ bt nc np h j) nc
end
