section
/-! pure part 4: the search -/
def sB (r : Nat → Nat) (b : Nat) : Nat → Nat
  | 0 => 0
  | p + 1 => sB r b p + (if r p = b then 2 ^ p else 0)
def sN (r : Nat → Nat) : Nat → Nat
  | 0 => 0
  | p + 1 => if r p < sN r p then sN r p else r p + 1
def sV (PR : Nat → Nat) (r : Nat → Nat) (np : Nat) : Nat → Nat
  | 0 => 0
  | b + 1 => sV PR r np b + PR (sB r b np)
def sA (PR : Nat → Nat) (np : Nat) (B : Nat × (Nat → Nat)) (r : Nat → Nat) : Nat × (Nat → Nat) := if sV PR r np (sN r np) < B.1 then (sV PR r np (sN r np), r) else B
def sU (r : Nat → Nat) (q k : Nat) : Nat → Nat := fun i => if i = q then k else r i
def sTL (rec : Nat → Nat × (Nat → Nat) → Nat × (Nat → Nat)) : Nat → Nat × (Nat → Nat) → Nat × (Nat → Nat)
  | 0, B => B
  | k + 1, B => rec k (sTL rec k B)
def sT (PR : Nat → Nat) (np : Nat) : Nat → Nat → Nat → (Nat → Nat) → Nat × (Nat → Nat) → Nat × (Nat → Nat)
  | 0, _, _, r, B => sA PR np B r
  | d + 1, q, bx, r, B => sTL (fun k => sT PR np d (q + 1) (fMx bx (k + 1)) (sU r q k)) (bx + 1) B
theorem sB_congr {r r' : Nat → Nat} (b : Nat) : ∀ q, (∀ i, i < q → r i = r' i) → sB r b q = sB r' b q
  | 0, _ => rfl
  | q + 1, h => by unfold sB; rw [sB_congr b q (fun i hi => h i (by omega)), h q (by omega)]
theorem sN_congr {r r' : Nat → Nat} : ∀ q, (∀ i, i < q → r i = r' i) → sN r q = sN r' q
  | 0, _ => rfl
  | q + 1, h => by unfold sN; rw [sN_congr q (fun i hi => h i (by omega)), h q (by omega)]
theorem sB_lt (r : Nat → Nat) (b : Nat) : ∀ q, sB r b q < 2 ^ q
  | 0 => Nat.one_pos
  | q + 1 => by
    have := sB_lt r b q
    unfold sB
    rw [Nat.pow_succ]
    split <;> omega
theorem sU_lt {r : Nat → Nat} {q k i : Nat} (h : i < q) : sU r q k i = r i := by unfold sU; rw [if_neg (by omega)]
theorem sU_eq (r : Nat → Nat) (q k : Nat) : sU r q k q = k := by unfold sU; rw [if_pos rfl]
abbrev rG (r : Nat → Nat) (q bx : Nat) : Prop := (sN r q = bx) ∧ (∀ b, b < bx → 1 ≤ sB r b q) ∧ (∀ b, bx ≤ b → sB r b q = 0) ∧ (bx ≤ q) ∧ (∀ i, i < q → r i < bx)
theorem rG.n {r : Nat → Nat} {q bx : Nat} (h0 : rG r q bx) : sN r q = bx := h0.1
theorem rG.po {r : Nat → Nat} {q bx : Nat} (h0 : rG r q bx) : ∀ b, b < bx → 1 ≤ sB r b q := h0.2.1
theorem rG.ze {r : Nat → Nat} {q bx : Nat} (h0 : rG r q bx) : ∀ b, bx ≤ b → sB r b q = 0 := h0.2.2.1
theorem rG.le {r : Nat → Nat} {q bx : Nat} (h0 : rG r q bx) : bx ≤ q := h0.2.2.2.1
theorem rG.rl {r : Nat → Nat} {q bx : Nat} (h0 : rG r q bx) : ∀ i, i < q → r i < bx := h0.2.2.2.2
theorem sB_U (r : Nat → Nat) (q k b : Nat) : sB (sU r q k) b (q + 1) = sB r b q + (if k = b then 2 ^ q else 0) := by
  show sB (sU r q k) b q + _ = _
  rw [sB_congr (r' := r) b q (fun i hi => sU_lt hi), sU_eq]
theorem rG.step {r : Nat → Nat} {q bx k : Nat} (h : rG r q bx) (hk : k ≤ bx) : rG (sU r q k) (q + 1) (fMx bx (k + 1)) := by
  have h2 : 0 < 2 ^ q := Nat.pow_pos (by decide)
  have hle := h.le
  refine ⟨?_, ?_, ?_, ?_, ?_⟩
  · show (if sU r q k q < sN (sU r q k) q then sN (sU r q k) q else sU r q k q + 1) = _
    rw [sN_congr (r' := r) q (fun i hi => sU_lt hi), sU_eq, h.n]
    unfold fMx
    split <;> split <;> omega
  · intro b hb
    rw [sB_U]
    unfold fMx at hb
    by_cases c : k = b
    · rw [if_pos c]; omega
    · have := h.po b (by split at hb <;> omega)
      omega
  · intro b hb
    rw [sB_U]
    unfold fMx at hb
    rw [h.ze b (by split at hb <;> omega), if_neg (by split at hb <;> omega)]
  · unfold fMx; split <;> omega
  · intro i hi
    by_cases c : i = q
    · subst c; rw [sU_eq]; unfold fMx; split <;> omega
    · rw [sU_lt (by omega)]
      have := h.rl i (by omega)
      unfold fMx; split <;> omega
theorem rG.zero (r : Nat → Nat) : rG r 0 0 := ⟨rfl, fun _ h => by omega, fun _ _ => rfl, Nat.le_refl 0, fun _ h => by omega⟩
theorem sV_ge {PR r : Nat → Nat} {np lp bx : Nat} (hg : rG r np bx) (hl : ∀ x, 1 ≤ x → x < 2 ^ np → lp ≤ PR x) : ∀ b, b ≤ bx → b * lp ≤ sV PR r np b
  | 0, _ => by rw [Nat.zero_mul]; exact Nat.zero_le _
  | b + 1, h => by
    have h1 := sV_ge hg hl b (by omega)
    have h2 := hl (sB r b np) (hg.po b (by omega)) (sB_lt r b np)
    unfold sV
    rw [Nat.succ_mul]
    omega
theorem sTL_id {rec : Nat → Nat × (Nat → Nat) → Nat × (Nat → Nat)} {B : Nat × (Nat → Nat)} : ∀ k, (∀ i, i < k → rec i B = B) → sTL rec k B = B
  | 0, _ => rfl
  | k + 1, h => by unfold sTL; rw [sTL_id k (fun i hi => h i (by omega)), h k (by omega)]
theorem sT_ge {PR : Nat → Nat} {np lp : Nat} (hl : ∀ x, 1 ≤ x → x < 2 ^ np → lp ≤ PR x) : ∀ d q bx r B, q + d = np → rG r q bx → B.1 ≤ bx * lp → sT PR np d q bx r B = B
  | 0, q, bx, r, B, e, hg, hB => by
    obtain rfl : q = np := by omega
    have := sV_ge hg hl bx (Nat.le_refl _)
    unfold sT sA
    rw [hg.n, if_neg (by omega)]
  | d + 1, q, bx, r, B, e, hg, hB => by
    unfold sT
    refine sTL_id _ (fun k hk => sT_ge hl d (q + 1) _ _ B (by omega) (hg.step (by omega)) ?_)
    have : bx ≤ fMx bx (k + 1) := by unfold fMx; split <;> omega
    exact Nat.le_trans hB (Nat.mul_le_mul_right _ this)
/-! the class -/
def rBC (σ : Nat → Nat → Int32) (PR : Nat → Nat) (np : Nat) (B : Nat × (Nat → Nat)) : Prop := σ 406 0 = nI B.1 ∧ ((B.1 = 7200009 ∧ σ 407 0 = -1) ∨ (B.1 < 7200009 ∧ σ 407 0 = nI (sN B.2 np) ∧ (∀ b, b < sN B.2 np → σ 403 b = nI (sB B.2 b np)) ∧ rG B.2 np (sN B.2 np) ∧ B.1 = sV PR B.2 np (sN B.2 np)))
abbrev rCl (C0 σ : Nat → Nat → Int32) (PR : Nat → Nat) (np : Nat) (r : Nat → Nat) (q : Nat) (B : Nat × (Nat → Nat)) : Prop := (∀ i, i ≠ 402 → i ≠ 403 → i ≠ 406 → i ≠ 407 → σ i = C0 i) ∧ (∀ b, b < 8 → σ 402 b = nI (sB r b q)) ∧ (rBC σ PR np B)
theorem rCl.fx {C0 σ : Nat → Nat → Int32} {PR : Nat → Nat} {np : Nat} {r : Nat → Nat} {q : Nat} {B : Nat × (Nat → Nat)} (h0 : rCl C0 σ PR np r q B) : ∀ i, i ≠ 402 → i ≠ 403 → i ≠ 406 → i ≠ 407 → σ i = C0 i := h0.1
theorem rCl.s {C0 σ : Nat → Nat → Int32} {PR : Nat → Nat} {np : Nat} {r : Nat → Nat} {q : Nat} {B : Nat × (Nat → Nat)} (h0 : rCl C0 σ PR np r q B) : ∀ b, b < 8 → σ 402 b = nI (sB r b q) := h0.2.1
theorem rCl.v {C0 σ : Nat → Nat → Int32} {PR : Nat → Nat} {np : Nat} {r : Nat → Nat} {q : Nat} {B : Nat × (Nat → Nat)} (h0 : rCl C0 σ PR np r q B) : rBC σ PR np B := h0.2.2
abbrev rPR (C0 : Nat → Nat → Int32) (PR : Nat → Nat) (np lp : Nat) : Prop := (np ≤ 8) ∧ (C0 405 0 = nI lp) ∧ (lp ≤ 7200009) ∧ (∀ x, 1 ≤ x → x < 2 ^ np → C0 401 x = nI (PR x) ∧ PR x ≤ 7200009 ∧ lp ≤ PR x)
theorem rPR.n8 {C0 : Nat → Nat → Int32} {PR : Nat → Nat} {np lp : Nat} (h0 : rPR C0 PR np lp) : np ≤ 8 := h0.1
theorem rPR.l {C0 : Nat → Nat → Int32} {PR : Nat → Nat} {np lp : Nat} (h0 : rPR C0 PR np lp) : C0 405 0 = nI lp := h0.2.1
theorem rPR.l7 {C0 : Nat → Nat → Int32} {PR : Nat → Nat} {np lp : Nat} (h0 : rPR C0 PR np lp) : lp ≤ 7200009 := h0.2.2.1
theorem rPR.p {C0 : Nat → Nat → Int32} {PR : Nat → Nat} {np lp : Nat} (h0 : rPR C0 PR np lp) : ∀ x, 1 ≤ x → x < 2 ^ np → C0 401 x = nI (PR x) ∧ PR x ≤ 7200009 ∧ lp ≤ PR x := h0.2.2.2
theorem rBC.le {σ : Nat → Nat → Int32} {PR : Nat → Nat} {np : Nat} {B : Nat × (Nat → Nat)} (h : rBC σ PR np B) : B.1 ≤ 7200009 := by
  rcases h.2 with h | h <;> omega
theorem sV_le {PR r : Nat → Nat} {np bx : Nat} (hg : rG r np bx) (hl : ∀ x, 1 ≤ x → x < 2 ^ np → PR x ≤ 7200009) : ∀ b, b ≤ bx → sV PR r np b ≤ b * 7200009
  | 0, _ => Nat.zero_le _
  | b + 1, h => by
    have h1 := sV_le hg hl b (by omega)
    have h2 := hl (sB r b np) (hg.po b (by omega)) (sB_lt r b np)
    unfold sV
    rw [Nat.succ_mul]
    omega
theorem p28 {n : Nat} (h : n ≤ 8) : 2 ^ n ≤ 256 := Nat.pow_le_pow_right (n := 2) (by decide) h
theorem fPrice_s {C0 σ : Nat → Nat → Int32} {PR r : Nat → Nat} {np lp bx : Nat} {B : Nat × (Nat → Nat)} (hp : rPR C0 PR np lp) (hg : rG r np bx) (h : rCl C0 σ PR np r np B) : ∀ b, b ≤ bx → fPrice σ (fSxs σ) b = nI (sV PR r np b)
  | 0, _ => rfl
  | b + 1, hb => by
    have h8 := hp.n8
    have hle := hg.le
    have h28 := p28 h8
    have hlt := sB_lt r b np
    unfold fPrice sV
    rw [fPrice_s hp hg h b (by omega), ← nI_add]
    congr 1
    unfold fSxs
    rw [h.s b (by omega), nI_clamp (by omega), h.fx 401 (by omega) (by omega) (by omega) (by omega)]
    exact (hp.p _ (hg.po b (by omega)) hlt).1
theorem rCl.cmp {C0 σ : Nat → Nat → Int32} {PR r : Nat → Nat} {np lp bx : Nat} {B : Nat × (Nat → Nat)} (hp : rPR C0 PR np lp) (hg : rG r np bx) (h : rCl C0 σ PR np r np B) : rCl C0 (fCmp σ (fSxs σ) bx) PR np r np (sA PR np B r) := by
  have h8 := hp.n8
  have hle := hg.le
  have hv := h.v.le
  have hV := sV_le hg (fun x h1 h2 => (hp.p x h1 h2).2.1) bx (Nat.le_refl _)
  have hV8 : bx * 7200009 ≤ 8 * 7200009 := Nat.mul_le_mul_right _ (by omega)
  unfold fCmp sA
  rw [fPrice_s hp hg h bx (Nat.le_refl _), h.v.1, hg.n]
  by_cases c : sV PR r np bx < B.1
  · rw [if_neg (nI_ge c (by omega)), if_pos c]
    refine ⟨fun i h1 h2 h3 h4 => ?_, fun b hb => ?_, ?_, Or.inr ⟨by show sV PR r np bx < _; omega, ?_, ?_, ?_, ?_⟩⟩
    · unfold gUp
      rw [if_neg h2, gSt_ne _ _ _ _ h4, gSt_ne _ _ _ _ h3]
      exact h.fx i h1 h2 h3 h4
    · show gUp _ _ _ 402 b = _
      unfold gUp
      rw [if_neg (by omega), gSt_ne _ _ _ _ (by omega), gSt_ne _ _ _ _ (by omega)]
      exact h.s b hb
    · show gUp _ _ _ 406 0 = nI (sV PR r np bx)
      unfold gUp
      rw [if_neg (by omega), gSt_ne _ _ _ _ (by omega), gSt_eq, pk_us]
    · show gUp _ _ _ 407 0 = nI (sN r np)
      unfold gUp
      rw [if_neg (by omega), gSt_eq, pk_us, hg.n]
    · intro b hb
      have hb : b < sN r np := hb
      show gUp _ _ _ 403 b = nI (sB r b np)
      rw [hg.n] at hb
      unfold gUp va_cpy
      rw [if_pos rfl, if_pos (by omega)]
      show σ 402 (0 + (b - 0)) = _
      rw [show 0 + (b - 0) = b by omega]
      exact h.s b (by omega)
    · show rG r np (sN r np); rw [hg.n]; exact hg
    · show sV PR r np bx = sV PR r np (sN r np); rw [hg.n]
  · rw [if_pos (nI_le (by omega) (by omega)), if_neg c]
    exact h
theorem u_bxl {bx v lp : Nat} (h8 : bx ≤ 8) (hl : lp ≤ 7200009) (hv : v ≤ 7200009) : (nI bx * nI lp < nI v) = (bx * lp < v) := by
  have : bx * lp ≤ 8 * 7200009 := Nat.mul_le_mul h8 hl
  rw [nI_mul]
  exact propext (nI_ltI (by omega) (by omega))
theorem rCl.shL {C0 : Nat → Nat → Int32} {PR r : Nat → Nat} {np q bx : Nat} {rec : Nat → (Nat → Nat → Int32) → (Nat → Nat → Int32)} {rec' : Nat → Nat × (Nat → Nat) → Nat × (Nat → Nat)} (hq : q < 8) (hbx : bx ≤ q)
    (hr : ∀ k, k ≤ bx → ∀ σ B, rCl C0 σ PR np (sU r q k) (q + 1) B → rCl C0 (rec k σ) PR np (sU r q k) (q + 1) (rec' k B)) {σ : Nat → Nat → Int32} {B : Nat × (Nat → Nat)} (h : rCl C0 σ PR np r q B) :
    ∀ k, k ≤ bx + 1 → rCl C0 (fShL rec q k σ) PR np r q (sTL rec' k B)
  | 0, _ => h
  | k + 1, hk => by
    have ih := rCl.shL hq hbx hr h k (by omega)
    unfold fShL sTL
    generalize fShL rec q k σ = τ at *
    generalize sTL rec' k B = B1 at *
    have h1 : rCl C0 (gSt τ 402 k (τ 402 k ||| fBit q)) PR np (sU r q k) (q + 1) B1 := by
      refine ⟨fun i h1 h2 h3 h4 => ?_, fun b hb => ?_, ?_⟩
      · rw [gSt_ne _ _ _ _ h1]; exact ih.fx i h1 h2 h3 h4
      · rw [gSt_eq, sB_U]
        by_cases c : b = k
        · subst c
          rw [pk_us, if_pos rfl, ih.s b hb]
          exact gOr8 q hq _ (sB_lt r b q)
        · rw [pk_un c, if_neg (by omega), ih.s b hb]; rfl
      · unfold rBC; rw [gSt_ne _ _ _ _ (by omega), gSt_ne _ _ _ _ (by omega), gSt_ne _ _ _ _ (by omega)]; exact ih.v
    have h2 := hr k (by omega) _ _ h1
    generalize rec k (gSt τ 402 k (τ 402 k ||| fBit q)) = T at *
    generalize rec' k B1 = B2 at *
    refine ⟨fun i h1 h2' h3 h4 => ?_, fun b hb => ?_, ?_⟩
    · rw [gSt_ne _ _ _ _ h1]; exact h2.fx i h1 h2' h3 h4
    · rw [gSt_eq]
      have := h2.s b hb
      rw [sB_U] at this
      by_cases c : b = k
      · subst c
        rw [pk_us, this, if_pos rfl]
        exact gXor8 q hq _ (sB_lt r b q)
      · rw [pk_un c, this, if_neg (by omega)]; rfl
    · unfold rBC; rw [gSt_ne _ _ _ _ (by omega), gSt_ne _ _ _ _ (by omega), gSt_ne _ _ _ _ (by omega)]; exact h2.v
theorem rCl.shr {C0 : Nat → Nat → Int32} {PR : Nat → Nat} {np lp : Nat} (hp : rPR C0 PR np lp) : ∀ d q bx r σ B, q + d = np → rG r q bx → rCl C0 σ PR np r q B → rCl C0 (fShr d q bx σ) PR np r q (sT PR np d q bx r B)
  | 0, q, bx, r, σ, B, e, hg, h => by
    obtain rfl : q = np := by omega
    have hle := hg.le
    have h8 := hp.n8
    unfold fShr
    rw [h.fx 405 (by omega) (by omega) (by omega) (by omega), hp.l, h.v.1]
    simp only [u_bxl (show bx ≤ 8 by omega) hp.l7 h.v.le]
    by_cases c : bx * lp < B.1
    · rw [if_pos c]; exact h.cmp hp hg
    · rw [if_neg c, sT_ge (fun x h1 h2 => (hp.p x h1 h2).2.2) 0 q bx r B (by omega) hg (by omega)]; exact h
  | d + 1, q, bx, r, σ, B, e, hg, h => by
    have hle := hg.le
    have h8 := hp.n8
    by_cases c : bx * lp < B.1
    · unfold fShr
      rw [h.fx 405 (by omega) (by omega) (by omega) (by omega), hp.l, h.v.1]
      simp only [u_bxl (show bx ≤ 8 by omega) hp.l7 h.v.le]
      rw [if_pos c]
      exact rCl.shL (rec' := fun k => sT PR np d (q + 1) (fMx bx (k + 1)) (sU r q k)) (by omega) hle (fun k hk τ B1 h1 => rCl.shr hp d (q + 1) _ _ τ B1 (by omega) (hg.step hk) h1) h (bx + 1) (Nat.le_refl _)
    · rw [sT_ge (fun x h1 h2 => (hp.p x h1 h2).2.2) (d + 1) q bx r B (by omega) hg (by omega)]
      unfold fShr
      rw [h.fx 405 (by omega) (by omega) (by omega) (by omega), hp.l, h.v.1]
      simp only [u_bxl (show bx ≤ 8 by omega) hp.l7 h.v.le]
      rw [if_neg c]
      exact h
end
