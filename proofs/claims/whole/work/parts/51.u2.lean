section
/-! pure part 2: data, layers -/
theorem gS (σ : Nat → Nat → Int32) (k i : Nat) (x : Int32) (j n : Nat) : gSt σ k i x j n = if j = k ∧ n = i then x else σ j n := by
  unfold gSt gUp
  by_cases c : j = k
  · subst c
    rw [if_pos rfl]
    by_cases e : n = i
    · subst e; rw [pk_us, if_pos ⟨rfl, rfl⟩]
    · rw [pk_un e, if_neg (fun z => e z.2)]
  · rw [if_neg c, if_neg (fun z => c z.1)]
theorem u_and1 (x : Int32) : x &&& 1 = 0 ∨ x &&& 1 = 1 := by
  have : x.toBitVec &&& 1#32 = 0#32 ∨ x.toBitVec &&& 1#32 = 1#32 := by
    rw [BitVec.and_one_eq_setWidth_ofBool_getLsbD]
    cases x.toBitVec.getLsbD 0 <;> decide
  rcases this with h | h
  · exact Or.inl (Int32.toBitVec_inj.mp (by rw [Int32.toBitVec_and]; exact h))
  · exact Or.inr (Int32.toBitVec_inj.mp (by rw [Int32.toBitVec_and]; exact h))
theorem u_in (set q : Int32) : fIn set q = mHas set q := by
  unfold fIn mHas
  rcases u_and1 (set >>> (q &&& 31)) with h | h <;> rw [h] <;> decide
abbrev rD (C M : Nat → Nat → Int32) (nc np : Nat) (bt bs : Nat → Nat) : Prop := (nc ≤ 4) ∧ (np ≤ 8) ∧ (C 105 0 = nI nc) ∧ (M 2 0 = nI nc) ∧ (∀ c, c < nc → C 100 c = M 3 c) ∧ (∀ c, c < nc → C 101 c = M 4 c) ∧ (∀ c, c < nc → C 102 c = M 5 c) ∧ (∀ c, c < nc → C 103 c = M 6 c) ∧ (∀ c, c < nc → C 104 c = M 7 c) ∧ (∀ c, c < nc → ∃ x : Nat, 1 ≤ x ∧ x ≤ 100000 ∧ M 6 c = nI x) ∧ (C 308 0 = nI np) ∧ (M 8 0 = nI np) ∧ (∀ q, q < np → C 300 q = M 9 q) ∧ (∀ q, q < np → C 301 q = M 10 q) ∧ (∀ q, q < np → C 302 q = M 11 q) ∧ (∀ q, q < np → C 303 q = M 12 q) ∧ (∀ q, q < np → C 304 q = M 13 q) ∧ (∀ q, q < np → C 305 q = M 14 q) ∧ (∀ q, q < np → M 13 q ≤ 50) ∧ (∀ q, q < np → M 14 q = 0 ∨ M 14 q = 1) ∧ (∀ q, np ≤ q → C 305 q = 0) ∧ (C 200 0 = M 1 0) ∧ (∀ k, k < np → C 306 k = nI (bt k)) ∧ (oOrd (fun q => -(M 11 q).toInt) np bt) ∧ (∀ k, k < np → C 307 k = nI (bs k)) ∧ (oOrd (fun q => (M 13 q).toInt) np bs)
theorem rD.nc4 {C M : Nat → Nat → Int32} {nc np : Nat} {bt bs : Nat → Nat} (h0 : rD C M nc np bt bs) : nc ≤ 4 := h0.1
theorem rD.np8 {C M : Nat → Nat → Int32} {nc np : Nat} {bt bs : Nat → Nat} (h0 : rD C M nc np bt bs) : np ≤ 8 := h0.2.1
theorem rD.cN {C M : Nat → Nat → Int32} {nc np : Nat} {bt bs : Nat → Nat} (h0 : rD C M nc np bt bs) : C 105 0 = nI nc := h0.2.2.1
theorem rD.mN {C M : Nat → Nat → Int32} {nc np : Nat} {bt bs : Nat → Nat} (h0 : rD C M nc np bt bs) : M 2 0 = nI nc := h0.2.2.2.1
theorem rD.cw {C M : Nat → Nat → Int32} {nc np : Nat} {bt bs : Nat → Nat} (h0 : rD C M nc np bt bs) : ∀ c, c < nc → C 100 c = M 3 c := h0.2.2.2.2.1
theorem rD.cd {C M : Nat → Nat → Int32} {nc np : Nat} {bt bs : Nat → Nat} (h0 : rD C M nc np bt bs) : ∀ c, c < nc → C 101 c = M 4 c := h0.2.2.2.2.2.1
theorem rD.ch {C M : Nat → Nat → Int32} {nc np : Nat} {bt bs : Nat → Nat} (h0 : rD C M nc np bt bs) : ∀ c, c < nc → C 102 c = M 5 c := h0.2.2.2.2.2.2.1
theorem rD.ce {C M : Nat → Nat → Int32} {nc np : Nat} {bt bs : Nat → Nat} (h0 : rD C M nc np bt bs) : ∀ c, c < nc → C 103 c = M 6 c := h0.2.2.2.2.2.2.2.1
theorem rD.cg {C M : Nat → Nat → Int32} {nc np : Nat} {bt bs : Nat → Nat} (h0 : rD C M nc np bt bs) : ∀ c, c < nc → C 104 c = M 7 c := h0.2.2.2.2.2.2.2.2.1
theorem rD.cr {C M : Nat → Nat → Int32} {nc np : Nat} {bt bs : Nat → Nat} (h0 : rD C M nc np bt bs) : ∀ c, c < nc → ∃ x : Nat, 1 ≤ x ∧ x ≤ 100000 ∧ M 6 c = nI x := h0.2.2.2.2.2.2.2.2.2.1
theorem rD.pN {C M : Nat → Nat → Int32} {nc np : Nat} {bt bs : Nat → Nat} (h0 : rD C M nc np bt bs) : C 308 0 = nI np := h0.2.2.2.2.2.2.2.2.2.2.1
theorem rD.qN {C M : Nat → Nat → Int32} {nc np : Nat} {bt bs : Nat → Nat} (h0 : rD C M nc np bt bs) : M 8 0 = nI np := h0.2.2.2.2.2.2.2.2.2.2.2.1
theorem rD.pw {C M : Nat → Nat → Int32} {nc np : Nat} {bt bs : Nat → Nat} (h0 : rD C M nc np bt bs) : ∀ q, q < np → C 300 q = M 9 q := h0.2.2.2.2.2.2.2.2.2.2.2.2.1
theorem rD.pd {C M : Nat → Nat → Int32} {nc np : Nat} {bt bs : Nat → Nat} (h0 : rD C M nc np bt bs) : ∀ q, q < np → C 301 q = M 10 q := h0.2.2.2.2.2.2.2.2.2.2.2.2.2.1
theorem rD.pt {C M : Nat → Nat → Int32} {nc np : Nat} {bt bs : Nat → Nat} (h0 : rD C M nc np bt bs) : ∀ q, q < np → C 302 q = M 11 q := h0.2.2.2.2.2.2.2.2.2.2.2.2.2.2.1
theorem rD.pg {C M : Nat → Nat → Int32} {nc np : Nat} {bt bs : Nat → Nat} (h0 : rD C M nc np bt bs) : ∀ q, q < np → C 303 q = M 12 q := h0.2.2.2.2.2.2.2.2.2.2.2.2.2.2.2.1
theorem rD.ps {C M : Nat → Nat → Int32} {nc np : Nat} {bt bs : Nat → Nat} (h0 : rD C M nc np bt bs) : ∀ q, q < np → C 304 q = M 13 q := h0.2.2.2.2.2.2.2.2.2.2.2.2.2.2.2.2.1
theorem rD.pf {C M : Nat → Nat → Int32} {nc np : Nat} {bt bs : Nat → Nat} (h0 : rD C M nc np bt bs) : ∀ q, q < np → C 305 q = M 14 q := h0.2.2.2.2.2.2.2.2.2.2.2.2.2.2.2.2.2.1
theorem rD.st {C M : Nat → Nat → Int32} {nc np : Nat} {bt bs : Nat → Nat} (h0 : rD C M nc np bt bs) : ∀ q, q < np → M 13 q ≤ 50 := h0.2.2.2.2.2.2.2.2.2.2.2.2.2.2.2.2.2.2.1
theorem rD.f01 {C M : Nat → Nat → Int32} {nc np : Nat} {bt bs : Nat → Nat} (h0 : rD C M nc np bt bs) : ∀ q, q < np → M 14 q = 0 ∨ M 14 q = 1 := h0.2.2.2.2.2.2.2.2.2.2.2.2.2.2.2.2.2.2.2.1
theorem rD.f0 {C M : Nat → Nat → Int32} {nc np : Nat} {bt bs : Nat → Nat} (h0 : rD C M nc np bt bs) : ∀ q, np ≤ q → C 305 q = 0 := h0.2.2.2.2.2.2.2.2.2.2.2.2.2.2.2.2.2.2.2.2.1
theorem rD.gp {C M : Nat → Nat → Int32} {nc np : Nat} {bt bs : Nat → Nat} (h0 : rD C M nc np bt bs) : C 200 0 = M 1 0 := h0.2.2.2.2.2.2.2.2.2.2.2.2.2.2.2.2.2.2.2.2.2.1
theorem rD.hb {C M : Nat → Nat → Int32} {nc np : Nat} {bt bs : Nat → Nat} (h0 : rD C M nc np bt bs) : ∀ k, k < np → C 306 k = nI (bt k) := h0.2.2.2.2.2.2.2.2.2.2.2.2.2.2.2.2.2.2.2.2.2.2.1
theorem rD.ob {C M : Nat → Nat → Int32} {nc np : Nat} {bt bs : Nat → Nat} (h0 : rD C M nc np bt bs) : oOrd (fun q => -(M 11 q).toInt) np bt := h0.2.2.2.2.2.2.2.2.2.2.2.2.2.2.2.2.2.2.2.2.2.2.2.1
theorem rD.hs {C M : Nat → Nat → Int32} {nc np : Nat} {bt bs : Nat → Nat} (h0 : rD C M nc np bt bs) : ∀ k, k < np → C 307 k = nI (bs k) := h0.2.2.2.2.2.2.2.2.2.2.2.2.2.2.2.2.2.2.2.2.2.2.2.2.1
theorem rD.os {C M : Nat → Nat → Int32} {nc np : Nat} {bt bs : Nat → Nat} (h0 : rD C M nc np bt bs) : oOrd (fun q => (M 13 q).toInt) np bs := h0.2.2.2.2.2.2.2.2.2.2.2.2.2.2.2.2.2.2.2.2.2.2.2.2.2
def rCi (i : Nat) : Prop := (100 ≤ i ∧ i ≤ 105) ∨ i = 200 ∨ (300 ≤ i ∧ i ≤ 308)
theorem rD.mv {C M C' M' : Nat → Nat → Int32} {nc np : Nat} {bt bs : Nat → Nat} (h : rD C M nc np bt bs) (hC : ∀ i, rCi i → C' i = C i) (hM : ∀ i, 1 ≤ i → i ≤ 14 → M' i = M i) : rD C' M' nc np bt bs := by
  have c1 := hC 100 (Or.inl (by omega))
  have c2 := hC 101 (Or.inl (by omega))
  have c3 := hC 102 (Or.inl (by omega))
  have c4 := hC 103 (Or.inl (by omega))
  have c5 := hC 104 (Or.inl (by omega))
  have c6 := hC 105 (Or.inl (by omega))
  have c7 := hC 200 (Or.inr (Or.inl rfl))
  have d0 := hC 300 (Or.inr (Or.inr (by omega)))
  have d1 := hC 301 (Or.inr (Or.inr (by omega)))
  have d2 := hC 302 (Or.inr (Or.inr (by omega)))
  have d3 := hC 303 (Or.inr (Or.inr (by omega)))
  have d4 := hC 304 (Or.inr (Or.inr (by omega)))
  have d5 := hC 305 (Or.inr (Or.inr (by omega)))
  have d6 := hC 306 (Or.inr (Or.inr (by omega)))
  have d7 := hC 307 (Or.inr (Or.inr (by omega)))
  have d8 := hC 308 (Or.inr (Or.inr (by omega)))
  have m1 := hM 1 (by omega) (by omega)
  have m2 := hM 2 (by omega) (by omega)
  have m3 := hM 3 (by omega) (by omega)
  have m4 := hM 4 (by omega) (by omega)
  have m5 := hM 5 (by omega) (by omega)
  have m6 := hM 6 (by omega) (by omega)
  have m7 := hM 7 (by omega) (by omega)
  have m8 := hM 8 (by omega) (by omega)
  have m9 := hM 9 (by omega) (by omega)
  have m10 := hM 10 (by omega) (by omega)
  have m11 := hM 11 (by omega) (by omega)
  have m12 := hM 12 (by omega) (by omega)
  have m13 := hM 13 (by omega) (by omega)
  have m14 := hM 14 (by omega) (by omega)
  obtain ⟨a1, a2, a3, a4, a5, a6, a7, a8, a9, a10, a11, a12, a13, a14, a15, a16, a17, a18, a19, a20, a21, a22, a23, a24, a25, a26⟩ := h
  refine ⟨?_, ?_, ?_, ?_, ?_, ?_, ?_, ?_, ?_, ?_, ?_, ?_, ?_, ?_, ?_, ?_, ?_, ?_, ?_, ?_, ?_, ?_, ?_, ?_, ?_, ?_⟩ <;> first | assumption | (simp only [c1, c2, c3, c4, c5, c6, c7, d0, d1, d2, d3, d4, d5, d6, d7, d8, m1, m2, m3, m4, m5, m6, m7, m8, m9, m10, m11, m12, m13, m14]; assumption)
abbrev rP (C M : Nat → Nat → Int32) (L : Nat) (S : Nat → Prop) : Prop := (C 208 0 = nI L) ∧ (M 17 0 = nI L) ∧ (∀ j, j < L → C 201 j = M 18 j) ∧ (∀ j, j < L → C 202 j = M 19 j) ∧ (∀ j, j < L → C 203 j = M 20 j) ∧ (∀ j, j < L → C 204 j = M 21 j) ∧ (∀ j, j < L → C 205 j = M 22 j) ∧ (∀ q, S q → ∃ j, j < L ∧ C 206 q = nI j ∧ M 15 q = nI j) ∧ (∀ q, S q → C 207 q = M 16 q)
theorem rP.l1 {C M : Nat → Nat → Int32} {L : Nat} {S : Nat → Prop} (h0 : rP C M L S) : C 208 0 = nI L := h0.1
theorem rP.l2 {C M : Nat → Nat → Int32} {L : Nat} {S : Nat → Prop} (h0 : rP C M L S) : M 17 0 = nI L := h0.2.1
theorem rP.e1 {C M : Nat → Nat → Int32} {L : Nat} {S : Nat → Prop} (h0 : rP C M L S) : ∀ j, j < L → C 201 j = M 18 j := h0.2.2.1
theorem rP.e2 {C M : Nat → Nat → Int32} {L : Nat} {S : Nat → Prop} (h0 : rP C M L S) : ∀ j, j < L → C 202 j = M 19 j := h0.2.2.2.1
theorem rP.e3 {C M : Nat → Nat → Int32} {L : Nat} {S : Nat → Prop} (h0 : rP C M L S) : ∀ j, j < L → C 203 j = M 20 j := h0.2.2.2.2.1
theorem rP.e4 {C M : Nat → Nat → Int32} {L : Nat} {S : Nat → Prop} (h0 : rP C M L S) : ∀ j, j < L → C 204 j = M 21 j := h0.2.2.2.2.2.1
theorem rP.e5 {C M : Nat → Nat → Int32} {L : Nat} {S : Nat → Prop} (h0 : rP C M L S) : ∀ j, j < L → C 205 j = M 22 j := h0.2.2.2.2.2.2.1
theorem rP.p1 {C M : Nat → Nat → Int32} {L : Nat} {S : Nat → Prop} (h0 : rP C M L S) : ∀ q, S q → ∃ j, j < L ∧ C 206 q = nI j ∧ M 15 q = nI j := h0.2.2.2.2.2.2.2.1
theorem rP.p2 {C M : Nat → Nat → Int32} {L : Nat} {S : Nat → Prop} (h0 : rP C M L S) : ∀ q, S q → C 207 q = M 16 q := h0.2.2.2.2.2.2.2.2
theorem mRoom_congr {f g : Nat → Int32} (gap w wide : Int32) : ∀ d j, (∀ i, j ≤ i → i < j + d → f i = g i) → mRoom f gap w wide d j = mRoom g gap w wide d j
  | 0, _, _ => rfl
  | d + 1, j, h => by
    unfold mRoom
    rw [h j (by omega) (by omega), mRoom_congr gap w wide d (j + 1) (fun i h1 h2 => h i (by omega) (by omega))]
theorem u_min1 (x y : Int32) : (if x < y then x else y) = if y ≤ x then y else x := by
  by_cases c : x < y
  · rw [if_pos c, if_neg (by rw [Int32.le_iff_toInt_le]; rw [Int32.lt_iff_toInt_lt] at c; omega)]
  · rw [if_neg c, if_pos (by rw [Int32.le_iff_toInt_le]; rw [Int32.lt_iff_toInt_lt] at c; omega)]
theorem u_min2 {x : Int32} (h : x ≤ 50) : (if x < 50 then x else 50) = x := by
  by_cases c : x < 50
  · rw [if_pos c]
  · rw [if_neg c]
    rw [Int32.lt_iff_toInt_lt] at c
    rw [Int32.le_iff_toInt_le] at h
    exact Int32.toInt_inj.mp (by omega)
theorem u_neg (x : Int32) : -x + x = 0 := Int32.add_left_neg x
theorem u_ne {C M : Nat → Nat → Int32} {nc np : Nat} {bt bs : Nat → Nat} (h : rD C M nc np bt bs) {TC TM : Nat → Nat → Int32} (hC : ∀ i, i ≤ 200 ∨ 208 < i → TC i = C i) (hM : ∀ i, i < 15 ∨ 22 < i → TM i = M i) : rD TC TM nc np bt bs :=
  h.mv (fun i hi => hC i (by rcases hi with h | h | h <;> omega)) (fun i h1 h2 => hM i (by omega))
theorem rP.step {C M : Nat → Nat → Int32} {nc np L : Nat} {bt bs : Nat → Nat} {S : Nat → Prop} (h : rD C M nc np bt bs) (hp : rP C M L S) (hL : L < 100) {q c : Nat} (hq : q < np) (hc : c < nc) :
    rP (fLay C q (fRm C q (C 100 c) L) L) (mPlace M q c L) (mNewL M q c L) (fun i => S i ∨ i = q) := by
  have hr : fRm C q (C 100 c) L = mRm M q c L := by
    unfold fRm mRm
    rw [h.gp, h.pw q hq, h.cw c hc]
    exact mRoom_congr _ _ _ _ _ (fun i _ hi => hp.e1 i (by omega))
  have hle : mRm M q c L ≤ L := by have := mRoom_le (M 18) (M 1 0) (M 9 q) (M 3 c) L 0; unfold mRm; omega
  rw [hr]
  unfold mPlace mNewL fLay
  generalize mRm M q c L = j at *
  obtain ⟨l1, l2, e1, e2, e3, e4, e5, p1, p2⟩ := hp
  have g0 := h.gp
  have g1 := h.pw q hq
  have g2 := h.pt q hq
  have g3 := h.pg q hq
  have g4 := h.ps q hq
  have g5 := h.pf q hq
  have g6 := h.st q hq
  by_cases c1 : j = L
  · rw [if_pos c1, if_pos c1, if_pos c1]
    subst c1
    refine ⟨?_, ?_, ?_, ?_, ?_, ?_, ?_, ?_, ?_⟩
    · simp [fLay3, fLay1, fOpen, gS]
    · simp [mLay, mLay2, mLay3, mOpen, gS, l2, nI_1]
    · intro i hi
      simp only [fLay3, fLay1, fOpen, mLay, mLay2, mLay3, mOpen, gS]
      by_cases ci : i = j
      · subst ci; simp [g1, u_neg]
      · simp [ci, e1 i (by omega)]
    · intro i hi
      simp only [fLay3, fLay1, fOpen, mLay, mLay2, mLay3, mOpen, gS]
      by_cases ci : i = j
      · subst ci; simp [g2]
      · simp [ci, e2 i (by omega)]
    · intro i hi
      simp only [fLay3, fLay1, fOpen, mLay, mLay2, mLay3, mOpen, gS]
      by_cases ci : i = j
      · subst ci; simp [g3]
      · simp [ci, e3 i (by omega)]
    · intro i hi
      simp only [fLay3, fLay1, fOpen, mLay, mLay2, mLay3, mOpen, gS]
      by_cases ci : i = j
      · subst ci; simp [g4, u_min2 g6]
      · simp [ci, e4 i (by omega)]
    · intro i hi
      simp only [fLay3, fLay1, fOpen, mLay, mLay2, mLay3, mOpen, gS]
      by_cases ci : i = j
      · subst ci; simp [g5]
      · simp [ci, e5 i (by omega)]
    · intro i hi
      simp only [fLay3, fLay1, fOpen, mLay, mLay2, mLay3, mOpen, gS]
      by_cases ci : i = q
      · exact ⟨j, by omega, by simp [ci], by simp [ci]⟩
      · obtain ⟨j1, h1, h2, h3⟩ := p1 i (hi.resolve_right ci)
        exact ⟨j1, by omega, by simp [ci, h2], by simp [ci, h3]⟩
    · intro i hi
      simp only [fLay3, fLay1, fOpen, mLay, mLay2, mLay3, mOpen, gS]
      by_cases ci : i = q
      · simp [ci, u_neg]
      · simp [ci, p2 i (hi.resolve_right ci)]
  · rw [if_neg c1, if_neg c1, if_neg c1]
    have b1 := e1 j (by omega)
    have b2 := e2 j (by omega)
    have b3 := e3 j (by omega)
    have b4 := e4 j (by omega)
    have b5 := e5 j (by omega)
    refine ⟨?_, ?_, ?_, ?_, ?_, ?_, ?_, ?_, ?_⟩
    · simpa [fLay3, fLay1, gS] using l1
    · simpa [mLay, mLay2, mLay3, gS] using l2
    · intro i hi
      simp only [fLay3, fLay1, mLay, mLay2, mLay3, gS]
      by_cases ci : i = j
      · subst ci; simp [g0, g1, b1]
      · simp [ci, e1 i (by omega)]
    · intro i hi
      simp only [fLay3, fLay1, mLay, mLay2, mLay3, gS]
      simp [e2 i (by omega)]
    · intro i hi
      simp only [fLay3, fLay1, mLay, mLay2, mLay3, gS]
      by_cases ci : i = j
      · subst ci; simp [g3, b3]
      · simp [ci, e3 i (by omega)]
    · intro i hi
      simp only [fLay3, fLay1, mLay, mLay2, mLay3, gS]
      by_cases ci : i = j
      · subst ci; simp [g4, b4, u_min1]
      · simp [ci, e4 i (by omega)]
    · intro i hi
      simp only [fLay3, fLay1, mLay, mLay2, mLay3, gS]
      by_cases ci : i = j
      · subst ci; simp [g5, b5]
      · simp [ci, e5 i (by omega)]
    · intro i hi
      simp only [fLay3, fLay1, mLay, mLay2, mLay3, gS]
      by_cases ci : i = q
      · exact ⟨j, by omega, by simp [ci], by simp [ci]⟩
      · obtain ⟨j1, h1, h2, h3⟩ := p1 i (hi.resolve_right ci)
        exact ⟨j1, by omega, by simp [ci, h2], by simp [ci, h3]⟩
    · intro i hi
      simp only [fLay3, fLay1, mLay, mLay2, mLay3, gS]
      by_cases ci : i = q
      · simp [ci, b1, g0]
      · simp [ci, p2 i (hi.resolve_right ci)]
theorem rP.pk {C M : Nat → Nat → Int32} {nc np : Nat} {bt bs : Nat → Nat} (h : rD C M nc np bt bs) (set : Int32) {c : Nat} (hc : c < nc) :
    ∀ k, k ≤ np → ∃ L, L ≤ k ∧ rP (fPk C bt set (C 100 c) k) (mPk M bt set c k).1 L (fun q => ∃ i, i < k ∧ bt i = q ∧ ¬ mHas set (nI q) = 0)
  | 0, _ => ⟨0, Nat.le_refl 0, by
    refine ⟨?_, ?_, ?_, ?_, ?_, ?_, ?_, ?_, ?_⟩
    · simp [fPk, gS, nI_0]
    · simp [mPk, gS, nI_0]
    all_goals first | (intro j hj; omega) | (rintro q ⟨i, hi, _⟩; omega)⟩
  | k + 1, hk => by
    obtain ⟨L, hL, hp⟩ := rP.pk h set hc k (by omega)
    have hq := h.ob.lt k (by omega)
    have hd : rD (fPk C bt set (C 100 c) k) (mPk M bt set c k).1 nc np bt bs := u_ne h (fun i hi => fPk_fix C bt set _ hi k) (fun i hi => mPk_fix M bt set c hi k)
    have h8 := h.np8
    have e1 : fLn (fPk C bt set (C 100 c) k) = L := by unfold fLn; rw [hp.l1, nI_clamp (by omega)]
    have e2 : ((mPk M bt set c k).1 17 0).toNatClampNeg = L := by rw [hp.l2, nI_clamp (by omega)]
    have e3 : C 100 c = fPk C bt set (C 100 c) k 100 c := by rw [fPk_fix C bt set _ (Or.inl (by omega)) k]
    by_cases z : mHas set (nI (bt k)) = 0
    · refine ⟨L, by omega, ?_⟩
      unfold fPk mPk
      rw [u_in, if_pos z, if_pos z]
      obtain ⟨l1, l2, a1, a2, a3, a4, a5, p1, p2⟩ := hp
      refine ⟨l1, l2, a1, a2, a3, a4, a5, ?_, ?_⟩
      · rintro q ⟨i, hi, rfl, hz⟩
        have : i ≠ k := fun y => hz (by rw [y]; exact z)
        exact p1 _ ⟨i, by omega, rfl, hz⟩
      · rintro q ⟨i, hi, rfl, hz⟩
        have : i ≠ k := fun y => hz (by rw [y]; exact z)
        exact p2 _ ⟨i, by omega, rfl, hz⟩
    · have hs := rP.step hd hp (by omega) hq hc
      refine ⟨mNewL (mPk M bt set c k).1 (bt k) c L, by have := mNewL_le (mPk M bt set c k).1 (bt k) c L; omega, ?_⟩
      have eM : (mPk M bt set c (k + 1)).1 = mPlace (mPk M bt set c k).1 (bt k) c L := by
        show (if mHas set (nI (bt k)) = 0 then mPk M bt set c k else _).1 = _
        rw [if_neg z]
        show mPlace _ _ _ _ = _
        rw [e2]
      have eC : fPk C bt set (C 100 c) (k + 1) = fLay (fPk C bt set (C 100 c) k) (bt k) (fRm (fPk C bt set (C 100 c) k) (bt k) (C 100 c) L) L := by
        show (if fIn set (nI (bt k)) = 0 then _ else _) = _
        rw [u_in, if_neg z, e1]
      rw [eM, eC]
      rw [← e3] at hs
      obtain ⟨l1, l2, a1, a2, a3, a4, a5, p1, p2⟩ := hs
      refine ⟨l1, l2, a1, a2, a3, a4, a5, ?_, ?_⟩
      · rintro q ⟨i, hi, rfl, hz⟩
        by_cases y : i = k
        · exact p1 _ (Or.inr (congrArg bt y))
        · exact p1 _ (Or.inl ⟨i, by omega, rfl, hz⟩)
      · rintro q ⟨i, hi, rfl, hz⟩
        by_cases y : i = k
        · exact p2 _ (Or.inr (congrArg bt y))
        · exact p2 _ (Or.inl ⟨i, by omega, rfl, hz⟩)
theorem rP.all {C M : Nat → Nat → Int32} {nc np : Nat} {bt bs : Nat → Nat} (h : rD C M nc np bt bs) (set : Int32) {c : Nat} (hc : c < nc) :
    ∃ L, L ≤ 8 ∧ rP (fPk C bt set (C 100 c) np) (mPk M bt set c np).1 L (fun q => q < np ∧ ¬ mHas set (nI q) = 0) := by
  obtain ⟨L, h1, ⟨l1, l2, a1, a2, a3, a4, a5, p1, p2⟩⟩ := rP.pk h set hc np (Nat.le_refl _)
  have h8 := h.np8
  refine ⟨L, by omega, l1, l2, a1, a2, a3, a4, a5, ?_, ?_⟩
  · rintro q ⟨hq, hz⟩
    obtain ⟨k, hk, e⟩ := h.ob.su q hq
    exact p1 q ⟨k, hk, e, hz⟩
  · rintro q ⟨hq, hz⟩
    obtain ⟨k, hk, e⟩ := h.ob.su q hq
    exact p2 q ⟨k, hk, e, hz⟩
theorem mPk_w (M : Nat → Nat → Int32) (bt : Nat → Nat) (set : Int32) (c : Nat) : ∀ k, (mPk M bt set c k).2.2 = mSum (fun i => if mHas set (nI (bt i)) = 0 then 0 else M 12 (bt i)) k
  | 0 => rfl
  | k + 1 => by
    unfold mPk mSum
    by_cases z : mHas set (nI (bt k)) = 0
    · rw [if_pos z, if_pos z, mPk_w M bt set c k]; exact (Int32.add_zero _).symm
    · rw [if_neg z, if_neg z, mPk_w M bt set c k, mPk_fix M bt set c (i := 12) (Or.inl (by omega)) k]
theorem mPk_f (M : Nat → Nat → Int32) (bt : Nat → Nat) (set : Int32) (c : Nat) : ∀ k, ((mPk M bt set c k).2.1 = 0 ∨ (mPk M bt set c k).2.1 = 1) ∧ ((mPk M bt set c k).2.1 = 0 ↔ ∃ i, i < k ∧ ¬ mHas set (nI (bt i)) = 0 ∧ (M 3 c < M 9 (bt i) ∨ M 4 c < M 10 (bt i)))
  | 0 => ⟨Or.inr rfl, ⟨fun h => absurd h (show ¬ (1 : Int32) = 0 by decide), by rintro ⟨i, hi, _⟩; omega⟩⟩
  | k + 1 => by
    obtain ⟨h1, h2⟩ := mPk_f M bt set c k
    by_cases z : mHas set (nI (bt k)) = 0
    · have e : (mPk M bt set c (k + 1)).2.1 = (mPk M bt set c k).2.1 := by
        show (if mHas set (nI (bt k)) = 0 then mPk M bt set c k else _).2.1 = _
        rw [if_pos z]
      rw [e]
      refine ⟨h1, h2.trans ⟨?_, ?_⟩⟩
      · rintro ⟨i, hi, hz⟩; exact ⟨i, by omega, hz⟩
      · rintro ⟨i, hi, hz⟩
        have : i ≠ k := fun y => hz.1 (by rw [y]; exact z)
        exact ⟨i, by omega, hz⟩
    · have e : (mPk M bt set c (k + 1)).2.1 = mFit (mPk M bt set c k).2.1 M (bt k) c := by
        show (if mHas set (nI (bt k)) = 0 then mPk M bt set c k else _).2.1 = _
        rw [if_neg z]
        show mFit (mPk M bt set c k).2.1 (mPk M bt set c k).1 (bt k) c = _
        unfold mFit
        rw [mPk_fix M bt set c (i := 3) (Or.inl (by omega)) k, mPk_fix M bt set c (i := 9) (Or.inl (by omega)) k, mPk_fix M bt set c (i := 4) (Or.inl (by omega)) k, mPk_fix M bt set c (i := 10) (Or.inl (by omega)) k]
      rw [e]
      unfold mFit
      by_cases y : (mPk M bt set c k).2.1 = 0
      · rw [if_pos y]
        obtain ⟨i, hi, hz⟩ := h2.mp y
        exact ⟨Or.inl rfl, ⟨fun _ => ⟨i, by omega, hz⟩, fun _ => rfl⟩⟩
      · rw [if_neg y]
        by_cases y1 : M 3 c < M 9 (bt k)
        · rw [if_pos y1]
          exact ⟨Or.inl rfl, ⟨fun _ => ⟨k, by omega, z, Or.inl y1⟩, fun _ => rfl⟩⟩
        · rw [if_neg y1]
          by_cases y2 : M 4 c < M 10 (bt k)
          · rw [if_pos y2]
            exact ⟨Or.inl rfl, ⟨fun _ => ⟨k, by omega, z, Or.inr y2⟩, fun _ => rfl⟩⟩
          · rw [if_neg y2]
            refine ⟨Or.inr rfl, ⟨fun x => absurd x (by decide), ?_⟩⟩
            rintro ⟨i, hi, hz⟩
            by_cases x : i = k
            · subst x; exact absurd hz.2 (fun w => w.elim y1 y2)
            · exact absurd (h2.mpr ⟨i, by omega, hz⟩) y
theorem fGrams_s (C : Nat → Nat → Int32) (set : Int32) : ∀ k, fGrams C set k = mSum (fun q => if mHas set (nI q) = 0 then 0 else C 303 q) k
  | 0 => rfl
  | k + 1 => by
    unfold fGrams mSum
    rw [u_in, fGrams_s C set k]
    by_cases z : mHas set (nI k) = 0
    · rw [if_pos z, if_pos z]; exact (Int32.add_zero _).symm
    · rw [if_neg z, if_neg z]
theorem mGrams_s (M : Nat → Nat → Int32) (set : Int32) : ∀ k, mGrams M set k = mSum (fun q => if mHas set (nI q) = 0 then 0 else M 12 q) k
  | 0 => rfl
  | k + 1 => by unfold mGrams mSum; rw [mGrams_s M set k]
theorem fAW_s (C : Nat → Nat → Int32) (set mw md : Int32) : ∀ d k, (fAW C set mw md d k = 0 ↔ ∃ q, k ≤ q ∧ q < k + d ∧ ¬ mHas set (nI q) = 0 ∧ (mw < C 300 q ∨ md < C 301 q))
  | 0, k => ⟨fun h => absurd h (show ¬ (1 : Int32) = 0 by decide), by rintro ⟨q, h1, h2, _⟩; omega⟩
  | d + 1, k => by
    unfold fAW
    rw [u_in]
    have ih := fAW_s C set mw md d (k + 1)
    have up : (∃ q, k + 1 ≤ q ∧ q < k + 1 + d ∧ ¬ mHas set (nI q) = 0 ∧ (mw < C 300 q ∨ md < C 301 q)) → ∃ q, k ≤ q ∧ q < k + (d + 1) ∧ ¬ mHas set (nI q) = 0 ∧ (mw < C 300 q ∨ md < C 301 q) := by
      rintro ⟨q, h1, h2, h3⟩; exact ⟨q, by omega, by omega, h3⟩
    by_cases z : mHas set (nI k) = 0
    · rw [if_pos z, ih]
      refine ⟨up, ?_⟩
      rintro ⟨q, h1, h2, h3⟩
      have : q ≠ k := fun y => h3.1 (by rw [y]; exact z)
      exact ⟨q, by omega, by omega, h3⟩
    · rw [if_neg z]
      by_cases y1 : mw < C 300 k
      · rw [if_pos y1]; exact ⟨fun _ => ⟨k, by omega, by omega, z, Or.inl y1⟩, fun _ => rfl⟩
      · rw [if_neg y1]
        by_cases y2 : C 301 k ≤ md
        · rw [if_pos y2, ih]
          refine ⟨up, ?_⟩
          rintro ⟨q, h1, h2, h3⟩
          have : q ≠ k := by
            rintro rfl
            rcases h3.2 with w | w
            · exact y1 w
            · rw [Int32.lt_iff_toInt_lt] at w
              rw [Int32.le_iff_toInt_le] at y2
              omega
          exact ⟨q, by omega, by omega, h3⟩
        · rw [if_neg y2]
          refine ⟨fun _ => ⟨k, by omega, by omega, z, Or.inr ?_⟩, fun _ => rfl⟩
          rw [Int32.lt_iff_toInt_lt]
          rw [Int32.le_iff_toInt_le] at y2
          omega
theorem u_cnt {f g : Nat → Int32} : ∀ n, (∀ k, k < n → f k = g k) → fCnt f n = mCnt g n
  | 0, _ => rfl
  | n + 1, h => by
    unfold fCnt mCnt
    rw [u_cnt n (fun k hk => h k (by omega)), h n (by omega)]
    by_cases z : g n = 0
    · rw [if_pos z, if_pos z]; exact (Int32.add_zero _).symm
    · rw [if_neg z, if_neg z]
theorem u_1lt (x : Int32) : (1 < x) = (2 ≤ x) := by
  apply propext
  rw [Int32.lt_iff_toInt_lt, Int32.le_iff_toInt_le]
  show (1 : Int) < _ ↔ (2 : Int) ≤ _
  omega
theorem rD.grams {C M : Nat → Nat → Int32} {nc np : Nat} {bt bs : Nat → Nat} (h : rD C M nc np bt bs) (set : Int32) : fGrams C set np = mGrams M set np := by
  rw [fGrams_s, mGrams_s]
  exact u_sum_congr np (fun q hq => by rw [h.pg q hq])
theorem rD.held {C M : Nat → Nat → Int32} {nc np : Nat} {bt bs : Nat → Nat} (h : rD C M nc np bt bs) (set : Int32) {c : Nat} (hc : c < nc) : fHeldR C bt set c np = mPackR (mPk M bt set c np) c := by
  obtain ⟨L, hL, hp⟩ := rP.all h set hc
  have e1 : fLn (fHeldT C bt set c np) = L := by unfold fLn fHeldT; rw [hp.l1, nI_clamp (by omega)]
  have e2 : mLn (mPk M bt set c np).1 = L := by unfold mLn; rw [hp.l2, nI_clamp (by omega)]
  have e3 : fGrams C set np = (mPk M bt set c np).2.2 := by
    rw [h.grams, mGrams_s, mPk_w, ← h.ob.sm]
  have e4 : mSum (fHeldT C bt set c np 202) L = mSum ((mPk M bt set c np).1 19) L := u_sum_congr L (fun j hj => hp.e2 j hj)
  have e5 : fCnt (fHeldT C bt set c np 205) L = mCnt ((mPk M bt set c np).1 22) L := u_cnt L (fun j hj => hp.e5 j hj)
  have e6 : (fAW C set (C 100 c) (C 101 c) np 0 = 0) = ((mPk M bt set c np).2.1 = 0) := by
    apply propext
    rw [fAW_s, (mPk_f M bt set c np).2]
    constructor
    · rintro ⟨q, h1, h2, h3, h4⟩
      obtain ⟨k, hk, rfl⟩ := h.ob.su q (by omega)
      rw [h.cw c hc, h.cd c hc, h.pw _ (by omega), h.pd _ (by omega)] at h4
      exact ⟨k, hk, h3, h4⟩
    · rintro ⟨k, hk, h3, h4⟩
      have := h.ob.lt k hk
      refine ⟨bt k, by omega, by omega, h3, ?_⟩
      rw [h.cw c hc, h.cd c hc, h.pw _ (by omega), h.pd _ (by omega)]
      exact h4
  unfold fHeldR mPackR
  rw [e1, e2, e3, e4, e5, h.cg c hc, h.ch c hc, mPk_fix M bt set c (i := 5) (Or.inl (by omega)) np, mPk_fix M bt set c (i := 7) (Or.inl (by omega)) np]
  simp only [e6, u_1lt]
  by_cases z1 : M 7 c < (mPk M bt set c np).2.2 <;> by_cases z2 : (mPk M bt set c np).2.1 = 0 <;> by_cases z3 : M 5 c < mSum ((mPk M bt set c np).1 19) L <;> simp [z1, z2, z3]
end
