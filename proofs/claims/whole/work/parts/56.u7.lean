section
/-! pure part 7: what at, box, cost, raised, pallets tell -/
theorem u_has : ∀ q, q < 8 → ∀ x, x < 256 → mHas (nI x) (nI q) = if x.testBit q then 1 else 0 := by decide +kernel
theorem sB_bit (r : Nat → Nat) (b : Nat) {q : Nat} : ∀ n, q < n → (sB r b n).testBit q = decide (r q = b)
  | 0, h => by omega
  | n + 1, h => by
    have hl := sB_lt r b n
    unfold sB
    by_cases c : q = n
    · subst c
      by_cases e : r q = b
      · rw [if_pos e, Nat.add_comm, Nat.testBit_two_pow_add_eq, Nat.testBit_lt_two_pow hl]; simp [e]
      · rw [if_neg e, Nat.add_zero, Nat.testBit_lt_two_pow hl]; simp [e]
    · by_cases e : r n = b
      · rw [if_pos e, Nat.add_comm, Nat.testBit_two_pow_add_gt (by omega)]; exact sB_bit r b n (by omega)
      · rw [if_neg e, Nat.add_zero]; exact sB_bit r b n (by omega)
theorem sB_has {r : Nat → Nat} {b q np : Nat} (hq : q < np) (h8 : np ≤ 8) : mHas (nI (sB r b np)) (nI q) = 0 ↔ ¬ r q = b := by
  rw [u_has q (by omega) _ (by have := sB_lt r b np; have := p28 h8; omega), sB_bit r b np hq]
  by_cases c : r q = b <;> simp [c]
theorem u_bits : ∀ n, n < 8 → ∀ x, x < 2 ^ n → fBits (nI (x + 2 ^ n)) = fBits (nI x) + 1 := by decide +kernel
def sC (r : Nat → Nat) (b : Nat) : Nat → Int32
  | 0 => 0
  | k + 1 => sC r b k + (if r k = b then 1 else 0)
theorem fBits_s (r : Nat → Nat) (b : Nat) : ∀ n, n ≤ 8 → fBits (nI (sB r b n)) = sC r b n
  | 0, _ => show fBits (nI 0) = 0 by decide +kernel
  | n + 1, h => by
    unfold sB sC
    rw [← fBits_s r b n (by omega)]
    by_cases e : r n = b
    · rw [if_pos e, if_pos e, u_bits n (by omega) _ (sB_lt r b n)]
    · rw [if_neg e, if_neg e, Nat.add_zero]; exact (Int32.add_zero _).symm
theorem mBoxN_s {τ : Nat → Nat → Int32} {r : Nat → Nat} {b : Nat} (hb : b < 8) : ∀ n, (∀ k, k < n → τ 26 k = nI (r k) ∧ r k < 8) → mBoxN τ (nI b) n = sC r b n
  | 0, _ => rfl
  | n + 1, h => by
    unfold mBoxN sC
    obtain ⟨h1, h2⟩ := h n (by omega)
    rw [mBoxN_s hb n (fun k hk => h k (by omega)), h1]
    congr 1
    by_cases e : r n = b
    · rw [if_pos e, if_pos (by rw [e])]
    · rw [if_neg e, if_neg (fun z => e ((nI_eq (by omega) (by omega)).mp z))]
theorem fLy_congr {σ τ : Nat → Nat → Int32} (h3 : σ 203 = τ 203) (h4 : σ 204 = τ 204) (h5 : σ 205 = τ 205) (j : Nat) : ∀ k, fLy σ j k = fLy τ j k
  | 0 => rfl
  | k + 1 => by unfold fLy fBelow; rw [fLy_congr h3 h4 h5 j k, h3, h4, h5]
theorem fLz_congr {σ τ : Nat → Nat → Int32} (h2 : σ 202 = τ 202) (h3 : σ 203 = τ 203) (h4 : σ 204 = τ 204) (h5 : σ 205 = τ 205) (j : Nat) : ∀ k, fLz σ j k = fLz τ j k
  | 0 => rfl
  | k + 1 => by unfold fLz fBelow; rw [fLz_congr h2 h3 h4 h5 j k, h2, h3, h4, h5]
theorem rP.below {C M : Nat → Nat → Int32} {L : Nat} {S : Nat → Prop} (h : rP C M L S) {k j : Nat} (hk : k < L) (hj : j < L) : fBelow C k j = mBelow M k j := by
  unfold fBelow mBelow
  rw [h.e5 k hk, h.e5 j hj, h.e4 k hk, h.e4 j hj, h.e3 k hk, h.e3 j hj]
theorem rP.ly {C M : Nat → Nat → Int32} {L : Nat} {S : Nat → Prop} (h : rP C M L S) {j : Nat} (hj : j < L) : ∀ k, k ≤ L → fLy C j k = mLy M j k
  | 0, _ => rfl
  | k + 1, hk => by unfold fLy mLy; rw [h.ly hj k (by omega), h.below (by omega) hj]
theorem rP.lz {C M : Nat → Nat → Int32} {L : Nat} {S : Nat → Prop} (h : rP C M L S) {j : Nat} (hj : j < L) : ∀ k, k ≤ L → fLz C j k = mLz M j k
  | 0, _ => rfl
  | k + 1, hk => by unfold fLz mLz; rw [h.lz hj k (by omega), h.below (by omega) hj, h.e2 k (by omega)]
/-- one box's rows, by the packing that they were read from -/
abbrev rRow (C X : Nat → Nat → Int32) (np b c : Nat) (r : Nat → Nat) : Prop := (C (1100 + b) 0 = nI c) ∧ (C (1100 + b) 1 = fBits (nI (sB r b np))) ∧ (C (1100 + b) 2 = fGrams C (nI (sB r b np)) np) ∧ (C (1100 + b) 3 = nI (fLn X)) ∧ (C (1100 + b) 4 = mSum (X 202) (fLn X)) ∧ (∀ q, q < np → r q = b → C (1000 + q) 0 = nI b) ∧ (∀ q, q < np → r q = b → C (1000 + q) 1 = fLy X (fLo X q) (fLn X)) ∧ (∀ q, q < np → r q = b → C (1000 + q) 2 = X 207 q) ∧ (∀ q, q < np → r q = b → C (1000 + q) 3 = fLz X (fLo X q) (fLn X))
theorem rRow.b0 {C X : Nat → Nat → Int32} {np b c : Nat} {r : Nat → Nat} (h0 : rRow C X np b c r) : C (1100 + b) 0 = nI c := h0.1
theorem rRow.b1 {C X : Nat → Nat → Int32} {np b c : Nat} {r : Nat → Nat} (h0 : rRow C X np b c r) : C (1100 + b) 1 = fBits (nI (sB r b np)) := h0.2.1
theorem rRow.b2 {C X : Nat → Nat → Int32} {np b c : Nat} {r : Nat → Nat} (h0 : rRow C X np b c r) : C (1100 + b) 2 = fGrams C (nI (sB r b np)) np := h0.2.2.1
theorem rRow.b3 {C X : Nat → Nat → Int32} {np b c : Nat} {r : Nat → Nat} (h0 : rRow C X np b c r) : C (1100 + b) 3 = nI (fLn X) := h0.2.2.2.1
theorem rRow.b4 {C X : Nat → Nat → Int32} {np b c : Nat} {r : Nat → Nat} (h0 : rRow C X np b c r) : C (1100 + b) 4 = mSum (X 202) (fLn X) := h0.2.2.2.2.1
theorem rRow.q0 {C X : Nat → Nat → Int32} {np b c : Nat} {r : Nat → Nat} (h0 : rRow C X np b c r) : ∀ q, q < np → r q = b → C (1000 + q) 0 = nI b := h0.2.2.2.2.2.1
theorem rRow.q1 {C X : Nat → Nat → Int32} {np b c : Nat} {r : Nat → Nat} (h0 : rRow C X np b c r) : ∀ q, q < np → r q = b → C (1000 + q) 1 = fLy X (fLo X q) (fLn X) := h0.2.2.2.2.2.2.1
theorem rRow.q2 {C X : Nat → Nat → Int32} {np b c : Nat} {r : Nat → Nat} (h0 : rRow C X np b c r) : ∀ q, q < np → r q = b → C (1000 + q) 2 = X 207 q := h0.2.2.2.2.2.2.2.1
theorem rRow.q3 {C X : Nat → Nat → Int32} {np b c : Nat} {r : Nat → Nat} (h0 : rRow C X np b c r) : ∀ q, q < np → r q = b → C (1000 + q) 3 = fLz X (fLo X q) (fLn X) := h0.2.2.2.2.2.2.2.2
abbrev rTab (C : Nat → Nat → Int32) (bt : Nat → Nat) (np n : Nat) (r cx : Nat → Nat) : Prop := (C 504 0 = mSum (fun b => C 103 (cx b)) n) ∧ (∀ b, b < n → ∃ τ : Nat → Nat → Int32, (∀ i, rCi i → τ i = C i) ∧ rRow C (fPk τ bt (nI (sB r b np)) (τ 100 (cx b)) np) np b (cx b) r)
theorem rTab.ct {C : Nat → Nat → Int32} {bt : Nat → Nat} {np n : Nat} {r cx : Nat → Nat} (h0 : rTab C bt np n r cx) : C 504 0 = mSum (fun b => C 103 (cx b)) n := h0.1
theorem rTab.rw {C : Nat → Nat → Int32} {bt : Nat → Nat} {np n : Nat} {r cx : Nat → Nat} (h0 : rTab C bt np n r cx) : ∀ b, b < n → ∃ τ : Nat → Nat → Int32, (∀ i, rCi i → τ i = C i) ∧ rRow C (fPk τ bt (nI (sB r b np)) (τ 100 (cx b)) np) np b (cx b) r := h0.2
theorem fGrams_congr {σ τ : Nat → Nat → Int32} (h : σ 303 = τ 303) (set : Int32) : ∀ k, fGrams σ set k = fGrams τ set k
  | 0 => rfl
  | k + 1 => by unfold fGrams; rw [fGrams_congr h set k, h]
theorem rTab.mv {C C' : Nat → Nat → Int32} {bt : Nat → Nat} {np n : Nat} {r cx : Nat → Nat} (h : rTab C bt np n r cx) (h1 : ∀ i, rCi i → C' i = C i) (h2 : C' 504 0 = C 504 0) (h3 : ∀ i, 1000 ≤ i → i < 1200 → C' i = C i) (hr : n ≤ 8) (hn : np ≤ 8) : rTab C' bt np n r cx := by
  refine ⟨?_, fun b hb => ?_⟩
  · rw [h2, h1 103 (Or.inl (by omega))]; exact h.ct
  · obtain ⟨τ, a1, a2⟩ := h.rw b hb
    refine ⟨τ, fun i hi => by rw [h1 i hi]; exact a1 i hi, ?_⟩
    obtain ⟨b0, b1, b2, b3, b4, q0, q1, q2, q3⟩ := a2
    have e := h3 (1100 + b) (by omega) (by omega)
    have e2 := fGrams_congr (h1 303 (Or.inr (Or.inr (by omega)))) (nI (sB r b np)) np
    refine ⟨by rw [e]; exact b0, by rw [e]; exact b1, by rw [e, e2]; exact b2, by rw [e]; exact b3, by rw [e]; exact b4, ?_, ?_, ?_, ?_⟩ <;> intro q hq hb <;> rw [h3 (1000 + q) (by omega) (by omega)]
    · exact q0 q hq hb
    · exact q1 q hq hb
    · exact q2 q hq hb
    · exact q3 q hq hb
/-! take -/
theorem fTell_s (σ : Nat → Nat → Int32) (bx : Nat) (set : Int32) (lo : Nat → Nat) (L : Nat) : ∀ k, (∀ q, q < k → ¬ mHas set (nI q) = 0 → fTell σ bx set lo L k (1000 + q) 0 = nI bx ∧ fTell σ bx set lo L k (1000 + q) 1 = fLy σ (lo q) L ∧ fTell σ bx set lo L k (1000 + q) 2 = σ 207 q ∧ fTell σ bx set lo L k (1000 + q) 3 = fLz σ (lo q) L) ∧
    ∀ i, (i < 1000 ∨ 1000 + k ≤ i ∨ ∃ q, i = 1000 + q ∧ mHas set (nI q) = 0) → fTell σ bx set lo L k i = σ i
  | 0 => ⟨fun q h => by omega, fun i _ => rfl⟩
  | k + 1 => by
    obtain ⟨ih1, ih2⟩ := fTell_s σ bx set lo L k
    by_cases z : mHas set (nI k) = 0
    · have e : fTell σ bx set lo L (k + 1) = fTell σ bx set lo L k := by
        show (if fIn set (nI k) = 0 then _ else _) = _
        rw [u_in, if_pos z]
      rw [e]
      refine ⟨fun q hq hz => ih1 q ?_ hz, fun i hi => ih2 i ?_⟩
      · have : q ≠ k := fun y => hz (by rw [y]; exact z)
        omega
      · rcases hi with h | h | h
        · exact Or.inl h
        · exact Or.inr (Or.inl (by omega))
        · exact Or.inr (Or.inr h)
    · have e : fTell σ bx set lo L (k + 1) = fT3 (fT2 (fT1 (fTell σ bx set lo L k) k bx (lo k) L) k) k (lo k) L := by
        show (if fIn set (nI k) = 0 then _ else _) = _
        rw [u_in, if_neg z]
      rw [e]
      have lw : ∀ i, i < 1000 → fTell σ bx set lo L k i = σ i := fun i hi => ih2 i (Or.inl hi)
      generalize fTell σ bx set lo L k = T at *
      have ne : ∀ i, i ≠ 1000 + k → fT3 (fT2 (fT1 T k bx (lo k) L) k) k (lo k) L i = T i := fun i hi => by
        unfold fT3 fT2 fT1
        rw [gSt_ne _ _ _ _ hi, gSt_ne _ _ _ _ hi, gSt_ne _ _ _ _ hi, gSt_ne _ _ _ _ hi]
      refine ⟨fun q hq hz => ?_, fun i hi => ?_⟩
      · by_cases c : q = k
        · subst c
          have y1 : fLy (gSt T (1000 + q) 0 (nI bx)) (lo q) L = fLy σ (lo q) L := by
            refine fLy_congr ?_ ?_ ?_ _ _ <;> rw [gSt_ne _ _ _ _ (by omega)] <;> exact lw _ (by omega)
          have y2 : fLz (fT2 (fT1 T q bx (lo q) L) q) (lo q) L = fLz σ (lo q) L := by
            refine fLz_congr ?_ ?_ ?_ ?_ _ _ <;> unfold fT2 fT1 <;> rw [gSt_ne _ _ _ _ (by omega), gSt_ne _ _ _ _ (by omega), gSt_ne _ _ _ _ (by omega)] <;> exact lw _ (by omega)
          have y3 : fT1 T q bx (lo q) L 207 q = σ 207 q := by
            unfold fT1; rw [gSt_ne _ _ _ _ (by omega), gSt_ne _ _ _ _ (by omega), lw 207 (by omega)]
          refine ⟨?_, ?_, ?_, ?_⟩
          · show gSt _ _ _ _ _ _ = _
            unfold fT2 fT1
            simp [gS]
          · unfold fT3 fT2
            rw [y3]
            unfold fT1
            rw [y1]
            simp [gS]
          · unfold fT3
            rw [gSt_eq, pk_un (by omega)]
            unfold fT2
            rw [gSt_eq, pk_us, y3]
          · unfold fT3
            rw [gSt_eq, pk_us, y2]
        · rw [ne _ (by omega)]; exact ih1 q (by omega) hz
      · have hne : i ≠ 1000 + k := by
          rcases hi with h | h | ⟨q, h, hz⟩
          · omega
          · omega
          · intro y; exact z (by rw [show k = q by omega]; exact hz)
        rw [ne i hne]
        refine ih2 i ?_
        rcases hi with h | h | h
        · exact Or.inl h
        · exact Or.inr (Or.inl (by omega))
        · exact Or.inr (Or.inr h)
theorem fTake_fix (σ : Nat → Nat → Int32) (bt sx cx : Nat → Nat) (np nbx : Nat) {i : Nat} (h : i ≤ 200 ∨ 208 < i) (h1 : i < 1000) (h2 : i ≠ 502) (h3 : i ≠ 503) (h4 : i ≠ 504) : ∀ b, fTake σ bt sx cx np nbx b i = σ i
  | 0 => by unfold fTake; rw [gSt_ne _ _ _ _ h4, gSt_ne _ _ _ _ h3, gSt_ne _ _ _ _ h2]
  | b + 1 => by
    unfold fTake
    rw [fTkV_fix _ _ _ _ _ _ h1 h4]
    unfold fTkX
    rw [fPk_fix _ _ _ _ h, fTake_fix σ bt sx cx np nbx h h1 h2 h3 h4 b]
theorem fTake_5 (σ : Nat → Nat → Int32) (bt sx cx : Nat → Nat) (np nbx : Nat) : ∀ b, fTake σ bt sx cx np nbx b 502 0 = 1 ∧ fTake σ bt sx cx np nbx b 503 0 = nI nbx
  | 0 => by unfold fTake; simp [gS]
  | b + 1 => by
    unfold fTake
    rw [fTkV_fix _ _ _ _ _ _ (by omega) (by omega), fTkV_fix _ _ _ _ _ _ (by omega) (by omega)]
    unfold fTkX
    rw [fPk_fix _ _ _ _ (by omega), fPk_fix _ _ _ _ (by omega)]
    exact fTake_5 σ bt sx cx np nbx b
theorem fTake_205 (σ : Nat → Nat → Int32) (bt sx cx : Nat → Nat) (np nbx : Nat) (h : fB01 (σ 205)) : ∀ b, fB01 (fTake σ bt sx cx np nbx b 205)
  | 0 => by unfold fTake; rw [gSt_ne _ _ _ _ (by omega), gSt_ne _ _ _ _ (by omega), gSt_ne _ _ _ _ (by omega)]; exact h
  | b + 1 => by
    unfold fTake
    rw [fTkV_fix _ _ _ _ _ _ (by omega) (by omega)]
    exact fPk_205 _ _ _ _ (fTake_205 σ bt sx cx np nbx h b) np
theorem fTab {σ : Nat → Nat → Int32} {bt r cx : Nat → Nat} {np nbx : Nat} (h8 : np ≤ 8) (hg : rG r np nbx) : ∀ b, b ≤ nbx → rTab (fTake σ bt (fun b => sB r b np) cx np nbx b) bt np b r cx
  | 0, _ => ⟨by unfold fTake; simp [gS]; rfl, fun b hb => by omega⟩
  | b + 1, hb => by
    have ih := fTab (σ := σ) (bt := bt) (cx := cx) h8 hg b (by omega)
    have hle := hg.le
    show rTab (fTkV (fTake σ bt (fun b => sB r b np) cx np nbx b) bt (fun b => sB r b np) cx np b) bt np (b + 1) r cx
    generalize fTake σ bt (fun b => sB r b np) cx np nbx b = τ at *
    have hlow : ∀ i, i < 1000 → i ≠ 504 → fTkV τ bt (fun b => sB r b np) cx np b i = fTkX τ bt (fun b => sB r b np) cx np b i := fun i h1 h2 => fTkV_fix _ _ _ _ _ _ h1 h2
    have hdat : ∀ i, rCi i → fTkV τ bt (fun b => sB r b np) cx np b i = τ i := fun i hi => by
      rw [hlow i (by rcases hi with z | z | z <;> omega) (by rcases hi with z | z | z <;> omega)]
      exact fPk_fix _ _ _ _ (by rcases hi with z | z | z <;> omega) np
    have hX : ∀ i, 1000 ≤ i → fTkX τ bt (fun b => sB r b np) cx np b i = τ i := fun i hi => fPk_fix _ _ _ _ (by omega) np
    have hXd : ∀ i, rCi i → fTkX τ bt (fun b => sB r b np) cx np b i = τ i := fun i hi => fPk_fix _ _ _ _ (by rcases hi with z | z | z <;> omega) np
    have hX5 : fTkX τ bt (fun b => sB r b np) cx np b 504 = τ 504 := fPk_fix _ _ _ _ (by omega) np
    obtain ⟨t1, t2⟩ := fTell_s (fTkW τ bt (fun b => sB r b np) cx np b) b (nI (sB r b np)) (fLo (fTkW τ bt (fun b => sB r b np) cx np b)) (fLn (fTkX τ bt (fun b => sB r b np) cx np b)) np
    have eV : fTkV τ bt (fun b => sB r b np) cx np b = fTell (fTkW τ bt (fun b => sB r b np) cx np b) b (nI (sB r b np)) (fLo (fTkW τ bt (fun b => sB r b np) cx np b)) (fLn (fTkX τ bt (fun b => sB r b np) cx np b)) np := rfl
    have hW : ∀ i, i ≠ 504 → i ≠ 1100 + b → fTkW τ bt (fun b => sB r b np) cx np b i = fTkX τ bt (fun b => sB r b np) cx np b i := fun i h1 h2 => by
      unfold fTkW fTB fTB4 fTB3 fTB2 fTB1 fTkZ
      rw [gSt_ne _ _ _ _ h2, gSt_ne _ _ _ _ h2, gSt_ne _ _ _ _ h2, gSt_ne _ _ _ _ h2, gSt_ne _ _ _ _ h2, gSt_ne _ _ _ _ h1]
    have hW5 : fTkW τ bt (fun b => sB r b np) cx np b 504 0 = τ 504 0 + τ 103 (cx b) := by
      unfold fTkW fTB fTB4 fTB3 fTB2 fTB1 fTkZ
      rw [gSt_ne _ _ _ _ (by omega), gSt_ne _ _ _ _ (by omega), gSt_ne _ _ _ _ (by omega), gSt_ne _ _ _ _ (by omega), gSt_ne _ _ _ _ (by omega), gSt_eq, pk_us, hX5, hXd 103 (Or.inl (by omega))]
    have hV5 : fTkV τ bt (fun b => sB r b np) cx np b 504 0 = τ 504 0 + τ 103 (cx b) := by rw [eV, t2 504 (Or.inl (by omega)), hW5]
    have hold : ∀ i, 1000 + np ≤ i → i ≠ 1100 + b → fTkV τ bt (fun b => sB r b np) cx np b i = τ i := fun i h1 h2 => by
      rw [eV, t2 i (Or.inr (Or.inl (by omega))), hW i (by omega) h2, hX i (by omega)]
    have holdq : ∀ q, q < np → ¬ r q = b → fTkV τ bt (fun b => sB r b np) cx np b (1000 + q) = τ (1000 + q) := fun q hq hr => by
      rw [eV, t2 _ (Or.inr (Or.inr ⟨q, rfl, (sB_has hq h8).mpr hr⟩)), hW _ (by omega) (by omega), hX _ (by omega)]
    refine ⟨?_, fun d hd => ?_⟩
    · rw [hV5, hdat 103 (Or.inl (by omega)), ih.ct]; rfl
    · by_cases c : d = b
      · subst c
        refine ⟨τ, fun i hi => (hdat i hi).symm, ?_⟩
        show rRow _ (fTkX τ bt (fun b => sB r b np) cx np d) np d (cx d) r
        have hrow : fTkV τ bt (fun b => sB r b np) cx np d (1100 + d) = fTkW τ bt (fun b => sB r b np) cx np d (1100 + d) := by rw [eV, t2 _ (Or.inr (Or.inl (by omega)))]
        have eg := fGrams_congr (σ := fTkV τ bt (fun b => sB r b np) cx np d) (τ := τ) (hdat 303 (Or.inr (Or.inr (by omega)))) (nI (sB r d np)) np
        have w2 : fTkW τ bt (fun b => sB r b np) cx np d 202 = fTkX τ bt (fun b => sB r b np) cx np d 202 := hW 202 (by omega) (by omega)
        have w3 : fTkW τ bt (fun b => sB r b np) cx np d 203 = fTkX τ bt (fun b => sB r b np) cx np d 203 := hW 203 (by omega) (by omega)
        have w4 : fTkW τ bt (fun b => sB r b np) cx np d 204 = fTkX τ bt (fun b => sB r b np) cx np d 204 := hW 204 (by omega) (by omega)
        have w5 : fTkW τ bt (fun b => sB r b np) cx np d 205 = fTkX τ bt (fun b => sB r b np) cx np d 205 := hW 205 (by omega) (by omega)
        have w6 : fTkW τ bt (fun b => sB r b np) cx np d 206 = fTkX τ bt (fun b => sB r b np) cx np d 206 := hW 206 (by omega) (by omega)
        have w7 : fTkW τ bt (fun b => sB r b np) cx np d 207 = fTkX τ bt (fun b => sB r b np) cx np d 207 := hW 207 (by omega) (by omega)
        have wl : ∀ q, fLo (fTkW τ bt (fun b => sB r b np) cx np d) q = fLo (fTkX τ bt (fun b => sB r b np) cx np d) q := fun q => by unfold fLo; rw [w6]
        have hz3 : ∀ (σ : Nat → Nat → Int32), fTkZ σ cx d 303 = σ 303 := fun σ => fTkZ_fix σ cx d (by omega) (by omega)
        have hz2 : ∀ (σ : Nat → Nat → Int32), fTkZ σ cx d 202 = σ 202 := fun σ => fTkZ_fix σ cx d (by omega) (by omega)
        have g3 : fGrams (fTB1 (fTkZ (fTkX τ bt (fun b => sB r b np) cx np d) cx d) d (nI (sB r d np))) (nI (sB r d np)) np = fGrams τ (nI (sB r d np)) np := fGrams_congr (by unfold fTB1; rw [gSt_ne _ _ _ _ (by omega), hz3, hXd 303 (Or.inr (Or.inr (by omega)))]) _ _
        refine ⟨?_, ?_, ?_, ?_, ?_, ?_, ?_, ?_, ?_⟩
        · rw [hrow]; unfold fTkW fTB fTB4 fTB3 fTB2 fTB1 fTkZ; simp [gS]
        · rw [hrow]; unfold fTkW fTB fTB4 fTB3 fTB2 fTB1 fTkZ; simp [gS]
        · rw [hrow, eg, ← g3]; unfold fTkW fTB fTB4 fTB3 fTB2; simp [gS]
        · rw [hrow]; unfold fTkW fTB fTB4 fTB3; simp [gS]
        · rw [hrow]; unfold fTkW fTB fTB4
          rw [gSt_eq, pk_us]
          unfold fTB3 fTB2 fTB1
          rw [gSt_ne _ _ _ _ (by omega), gSt_ne _ _ _ _ (by omega), gSt_ne _ _ _ _ (by omega), hz2]
        · intro q hq hr
          rw [eV]; exact (t1 q hq (fun z => (sB_has hq h8).mp z hr)).1
        · intro q hq hr
          rw [eV, (t1 q hq (fun z => (sB_has hq h8).mp z hr)).2.1, wl, fLy_congr w3 w4 w5]
        · intro q hq hr
          rw [eV, (t1 q hq (fun z => (sB_has hq h8).mp z hr)).2.2.1, w7]
        · intro q hq hr
          rw [eV, (t1 q hq (fun z => (sB_has hq h8).mp z hr)).2.2.2, wl, fLz_congr w2 w3 w4 w5]
      · obtain ⟨τ0, a1, a2⟩ := ih.rw d (by omega)
        refine ⟨τ0, fun i hi => by rw [hdat i hi]; exact a1 i hi, ?_⟩
        obtain ⟨b0, b1, b2, b3, b4, q0, q1, q2, q3⟩ := a2
        have e := hold (1100 + d) (by omega) (by omega)
        have e2 := fGrams_congr (σ := fTkV τ bt (fun b => sB r b np) cx np b) (τ := τ) (hdat 303 (Or.inr (Or.inr (by omega)))) (nI (sB r d np)) np
        refine ⟨by rw [e]; exact b0, by rw [e]; exact b1, by rw [e, e2]; exact b2, by rw [e]; exact b3, by rw [e]; exact b4, ?_, ?_, ?_, ?_⟩ <;> intro q hq hb2 <;> rw [holdq q hq (by omega)]
        · exact q0 q hq hb2
        · exact q1 q hq hb2
        · exact q2 q hq hb2
        · exact q3 q hq hb2
end
