section
/-! pure part 1: orders -/
theorem u_sum_congr {f g : Nat → Int32} : ∀ n, (∀ k, k < n → f k = g k) → mSum f n = mSum g n
  | 0, _ => rfl
  | n + 1, h => by unfold mSum; rw [u_sum_congr n (fun k hk => h k (by omega)), h n (by omega)]
def oBf (K : Nat → Int) (q : Nat) : Nat → Nat
  | 0 => 0
  | r + 1 => oBf K q r + (if K r < K q ∨ (K r = K q ∧ r < q) then 1 else 0)
theorem oBf_le (K : Nat → Int) (q : Nat) : ∀ n, oBf K q n ≤ n
  | 0 => Nat.le_refl 0
  | n + 1 => by have := oBf_le K q n; unfold oBf; split <;> omega
theorem oBf_congr {K K' : Nat → Int} {q : Nat} : ∀ n, (∀ r, r < n → K r = K' r) → K q = K' q → oBf K q n = oBf K' q n
  | 0, _, _ => rfl
  | n + 1, h, hq => by unfold oBf; rw [oBf_congr n (fun r hr => h r (by omega)) hq, h n (by omega), hq]
theorem oBf_mono {K : Nat → Int} {q p : Nat} (h : K q < K p) : ∀ n, oBf K q n ≤ oBf K p n
  | 0 => Nat.le_refl 0
  | n + 1 => by
    have := oBf_mono h n
    unfold oBf
    by_cases c : K n < K q ∨ (K n = K q ∧ n < q)
    · rw [if_pos c, if_pos (Or.inl (by omega))]; omega
    · rw [if_neg c]; omega
theorem mBef_o (f : Nat → Int32) (q : Nat) : ∀ n, mBef f q n = nI (oBf (fun q => -(f q).toInt) q n)
  | 0 => nI_0.symm
  | n + 1 => by
    unfold mBef oBf
    rw [mBef_o f q n, ← nI_add]
    congr 1
    by_cases c : f q < f n
    · rw [if_pos c, if_pos (Or.inl (by rw [Int32.lt_iff_toInt_lt] at c; omega))]; rfl
    · rw [if_neg c]
      by_cases c2 : f n = f q
      · rw [if_neg (by simpa using c2)]
        by_cases c3 : q ≤ n
        · rw [if_pos c3, if_neg (by rw [c2]; omega)]; rfl
        · rw [if_neg c3, if_pos (Or.inr ⟨by rw [c2], by omega⟩)]; rfl
      · rw [if_pos c2, if_neg]; rfl
        rintro (h | h)
        · exact c (Int32.lt_iff_toInt_lt.mpr (by omega))
        · exact c2 (Int32.toInt_inj.mp (by omega))
theorem mBefS_o (f : Nat → Int32) (q : Nat) : ∀ n, mBefS f q n = nI (oBf (fun q => (f q).toInt) q n)
  | 0 => nI_0.symm
  | n + 1 => by
    unfold mBefS oBf
    rw [mBefS_o f q n, ← nI_add]
    congr 1
    by_cases c : f n < f q
    · rw [if_pos c, if_pos (Or.inl (by rw [Int32.lt_iff_toInt_lt] at c; omega))]; rfl
    · rw [if_neg c]
      by_cases c2 : f n = f q
      · rw [if_neg (by simpa using c2)]
        by_cases c3 : q ≤ n
        · rw [if_pos c3, if_neg (by rw [c2]; omega)]; rfl
        · rw [if_neg c3, if_pos (Or.inr ⟨by rw [c2], by omega⟩)]; rfl
      · rw [if_pos c2, if_neg]; rfl
        rintro (h | h)
        · exact c (Int32.lt_iff_toInt_lt.mpr (by omega))
        · exact c2 (Int32.toInt_inj.mp (by omega))
abbrev oOrd (K : Nat → Int) (n : Nat) (bt : Nat → Nat) : Prop := (∀ k, k < n → bt k < n) ∧ (∀ k, k < n → oBf K (bt k) n = k) ∧ (∀ q, q < n → ∃ k, k < n ∧ bt k = q) ∧ (∀ g : Nat → Int32, mSum (fun k => g (bt k)) n = mSum g n)
theorem oOrd.lt {K : Nat → Int} {n : Nat} {bt : Nat → Nat} (h0 : oOrd K n bt) : ∀ k, k < n → bt k < n := h0.1
theorem oOrd.pl {K : Nat → Int} {n : Nat} {bt : Nat → Nat} (h0 : oOrd K n bt) : ∀ k, k < n → oBf K (bt k) n = k := h0.2.1
theorem oOrd.su {K : Nat → Int} {n : Nat} {bt : Nat → Nat} (h0 : oOrd K n bt) : ∀ q, q < n → ∃ k, k < n ∧ bt k = q := h0.2.2.1
theorem oOrd.sm {K : Nat → Int} {n : Nat} {bt : Nat → Nat} (h0 : oOrd K n bt) : ∀ g : Nat → Int32, mSum (fun k => g (bt k)) n = mSum g n := h0.2.2.2
theorem oOrd.congr {K K' : Nat → Int} {n : Nat} {bt : Nat → Nat} (h : oOrd K n bt) (e : ∀ q, q < n → K q = K' q) : oOrd K' n bt :=
  ⟨h.lt, fun k hk => by rw [← oBf_congr n e (e _ (h.lt k hk))]; exact h.pl k hk, h.su, h.sm⟩
theorem oOrd.zero (K : Nat → Int) (bt : Nat → Nat) : oOrd K 0 bt := ⟨fun _ h => by omega, fun _ h => by omega, fun _ h => by omega, fun _ => rfl⟩
theorem oOrd.mono {K : Nat → Int} {n : Nat} {bt : Nat → Nat} (h : oOrd K n bt) {i j : Nat} (hi : i ≤ j) (hj : j < n) : K (bt i) ≤ K (bt j) := by
  by_cases c : K (bt j) < K (bt i)
  · have := oBf_mono c n
    rw [h.pl j hj, h.pl i (by omega)] at this
    obtain rfl : i = j := by omega
    omega
  · omega
def oPl (gg : Nat → Bool) : Nat → Nat
  | 0 => 0
  | k + 1 => if gg k then oPl gg k else k + 1
theorem oPl_le (gg : Nat → Bool) : ∀ n, oPl gg n ≤ n
  | 0 => Nat.le_refl 0
  | n + 1 => by have := oPl_le gg n; unfold oPl; split <;> omega
theorem oPl_ge (gg : Nat → Bool) : ∀ n k, oPl gg n ≤ k → k < n → gg k = true
  | 0, _, _, h => by omega
  | n + 1, k, h1, h2 => by
    unfold oPl at h1
    split at h1
    · next c =>
      by_cases e : k = n
      · rw [e]; exact c
      · exact oPl_ge gg n k h1 (by omega)
    · omega
theorem oPl_nx (gg : Nat → Bool) : ∀ n, 0 < oPl gg n → gg (oPl gg n - 1) = false
  | 0, h => by unfold oPl at h; omega
  | n + 1, h => by
    unfold oPl at h ⊢
    split
    · next c => rw [if_pos c] at h; exact oPl_nx gg n h
    · next c => simpa using c
def oIns (bt : Nat → Nat) (n p : Nat) : Nat → Nat := fun j => if j < p then bt j else if j = p then n else bt (j - 1)
theorem oSrt_fix (id pq : Nat) (bt : Nat → Nat) (gg : Nat → Bool) {i : Nat} (h : i ≠ id) : ∀ k τ, fSrt id pq bt gg k τ i = τ i
  | 0, τ => by unfold fSrt; rw [gSt_ne _ _ _ _ h]
  | k + 1, τ => by
    unfold fSrt
    split
    · rw [oSrt_fix id pq bt gg h k, gSt_ne _ _ _ _ h]
    · rw [gSt_ne _ _ _ _ h]
theorem fSrt_id (id pq : Nat) (bt : Nat → Nat) (gg : Nat → Bool) : ∀ k τ j, fSrt id pq bt gg k τ id j = if j < oPl gg k then τ id j else if j = oPl gg k then nI pq else if j ≤ k then nI (bt (j - 1)) else τ id j
  | 0, τ, j => by
    unfold fSrt oPl
    rw [gSt_eq]
    by_cases c : j = 0
    · subst c; rw [pk_us]; simp
    · rw [pk_un c]; simp [c]
  | k + 1, τ, j => by
    unfold fSrt oPl
    split
    · next c =>
      rw [fSrt_id id pq bt gg k, gSt_eq]
      have := oPl_le gg k
      by_cases e1 : j < oPl gg k
      · rw [if_pos e1, if_pos e1, pk_un (by omega)]
      · rw [if_neg e1, if_neg e1]
        by_cases e2 : j = oPl gg k
        · rw [if_pos e2, if_pos e2]
        · rw [if_neg e2, if_neg e2]
          by_cases e3 : j ≤ k
          · rw [if_pos e3, if_pos (by omega)]
          · rw [if_neg e3]
            by_cases e4 : j = k + 1
            · subst e4; rw [pk_us, if_pos (Nat.le_refl _)]; rfl
            · rw [pk_un e4, if_neg (by omega)]
    · rw [gSt_eq]
      by_cases e1 : j < k + 1
      · rw [if_pos e1, pk_un (by omega)]
      · rw [if_neg e1]
        by_cases e2 : j = k + 1
        · subst e2; rw [pk_us, if_pos rfl]
        · rw [if_neg e2, pk_un e2, if_neg (by omega)]
theorem oIns_sm (bt : Nat → Nat) (n p : Nat) (g : Nat → Int32) : ∀ m, p ≤ m → mSum (fun k => g (oIns bt n p k)) (m + 1) = mSum (fun k => g (bt k)) m + g n := by
  intro m hm
  induction m with
  | zero =>
    obtain rfl : p = 0 := by omega
    rfl
  | succ m ih =>
    by_cases e : p = m + 1
    · subst e
      have h1 : ∀ k, k < m + 1 → (fun k => g (oIns bt n (m + 1) k)) k = (fun k => g (bt k)) k := fun k hk => by
        show g (oIns bt n (m + 1) k) = g (bt k)
        unfold oIns; rw [if_pos hk]
      show mSum (fun k => g (oIns bt n (m + 1) k)) (m + 1) + g (oIns bt n (m + 1) (m + 1)) = _
      rw [u_sum_congr (m + 1) h1]
      have : oIns bt n (m + 1) (m + 1) = n := by unfold oIns; rw [if_neg (by omega), if_pos rfl]
      rw [this]
    · show mSum (fun k => g (oIns bt n p k)) (m + 1) + g (oIns bt n p (m + 1)) = _
      rw [ih (by omega)]
      have : oIns bt n p (m + 1) = bt m := by unfold oIns; rw [if_neg (by omega), if_neg (by omega)]; rfl
      rw [this]
      show _ = mSum (fun k => g (bt k)) m + g (bt m) + g n
      rw [Int32.add_assoc, Int32.add_assoc, Int32.add_comm (g n)]
theorem oBf_self (K : Nat → Int) (n : Nat) : ∀ m, m ≤ n → nI (oBf K n m) = mSum (fun r => if K r ≤ K n then 1 else 0) m
  | 0, _ => rfl
  | m + 1, h => by
    unfold oBf mSum
    rw [← nI_add, oBf_self K n m (by omega)]
    congr 1
    by_cases c : K m ≤ K n
    · rw [if_pos c, if_pos (by omega)]; rfl
    · rw [if_neg c, if_neg (by omega)]; rfl
theorem oCnt (p : Nat) : ∀ m, mSum (fun k => if k < p then 1 else 0) m = nI (if m < p then m else p)
  | 0 => by cases p <;> rfl
  | m + 1 => by
    unfold mSum
    rw [oCnt p m]
    by_cases c : m < p
    · rw [if_pos c, if_pos c, nI_1]
      by_cases c2 : m + 1 < p
      · rw [if_pos c2]
      · rw [if_neg c2]; congr 1; omega
    · rw [if_neg c, if_neg c, if_neg (by omega)]; exact Int32.add_zero _
theorem oOrd.ins {K : Nat → Int} {n : Nat} {bt : Nat → Nat} (h : oOrd K n bt) (hn : n < 100) {gg : Nat → Bool} (hg : ∀ k, k < n → (gg k = true ↔ K n < K (bt k))) : oOrd K (n + 1) (oIns bt n (oPl gg n)) := by
  have hp := oPl_le gg n
  have hge := oPl_ge gg n
  have hlt : ∀ k, k < oPl gg n → K (bt k) ≤ K n := by
    intro k hk
    have h1 := oPl_nx gg n (by omega)
    have h2 := h.mono (i := k) (j := oPl gg n - 1) (by omega) (by omega)
    have h3 := hg (oPl gg n - 1) (by omega)
    rw [h1] at h3
    have h4 : ¬ K n < K (bt (oPl gg n - 1)) := fun z => by simpa using h3.mpr z
    omega
  generalize oPl gg n = p at *
  refine ⟨?_, ?_, ?_, ?_⟩
  · intro k hk
    unfold oIns
    split
    · have := h.lt k (by omega); omega
    · split
      · omega
      · have := h.lt (k - 1) (by omega); omega
  · intro k hk
    unfold oIns
    by_cases c1 : k < p
    · rw [if_pos c1]
      unfold oBf
      have := h.lt k (by omega)
      have h2 := hlt k c1
      rw [if_neg (by omega), h.pl k (by omega)]
      rfl
    · rw [if_neg c1]
      by_cases c2 : k = p
      · rw [if_pos c2]
        unfold oBf
        rw [if_neg (by omega)]
        have e := oBf_self K n n (Nat.le_refl n)
        rw [← h.sm, u_sum_congr (g := fun k => if k < p then 1 else 0) n ?_, oCnt] at e
        · have e2 := (nI_eq (by have := oBf_le K n n; omega) (by split <;> omega)).mp e
          rw [e2]
          split <;> omega
        · intro j hj
          show (if K (bt j) ≤ K n then (1 : Int32) else 0) = if j < p then 1 else 0
          by_cases c : j < p
          · rw [if_pos c, if_pos (hlt j c)]
          · have := (hg j hj).mp (hge j (by omega) hj)
            rw [if_neg c, if_neg (by omega)]
      · rw [if_neg c2]
        unfold oBf
        have := (hg (k - 1) (by omega)).mp (hge (k - 1) (by omega) (by omega))
        rw [if_pos (Or.inl this), h.pl (k - 1) (by omega)]
        omega
  · intro q hq
    by_cases c : q = n
    · exact ⟨p, by omega, by unfold oIns; rw [if_neg (by omega), if_pos rfl, c]⟩
    · obtain ⟨k, hk, e⟩ := h.su q (by omega)
      by_cases c2 : k < p
      · exact ⟨k, by omega, by unfold oIns; rw [if_pos c2, e]⟩
      · exact ⟨k + 1, by omega, by unfold oIns; rw [if_neg (by omega), if_neg (by omega)]; exact e⟩
  · intro g
    rw [oIns_sm bt n p g n (by omega), h.sm]
    rfl
theorem oOrd.uniq {K : Nat → Int} {n : Nat} {bt : Nat → Nat} (h : oOrd K n bt) {q k : Nat} (hq : q < n) (e : oBf K q n = k) : q = bt k := by
  obtain ⟨j, hj, rfl⟩ := h.su q hq
  rw [h.pl j hj] at e
  rw [e]
theorem mBT_o {f : Nat → Int32} {n : Nat} {bt : Nat → Nat} (h : oOrd (fun q => -(f q).toInt) n bt) (hn : n ≤ 8) {k : Nat} (hk : k < n) : ∀ d q, q + d = n → q ≤ bt k → mBT f n (nI k) d q = nI (bt k)
  | 0, q, h1, h2 => by have := h.lt k hk; omega
  | d + 1, q, h1, h2 => by
    unfold mBT
    have hb := oBf_le (fun q => -(f q).toInt) q n
    rw [mBef_o]
    by_cases c : oBf (fun q => -(f q).toInt) q n = k
    · rw [if_pos (by rw [c]), h.uniq (by omega) c]
    · rw [if_neg (fun z => c ((nI_eq (by omega) (by omega)).mp z))]
      refine mBT_o h hn hk d (q + 1) (by omega) ?_
      have : q ≠ bt k := fun z => c (by rw [z]; exact h.pl k hk)
      omega
theorem mMan_o {f : Nat → Int32} {n : Nat} {bt : Nat → Nat} (h : oOrd (fun q => (f q).toInt) n bt) (hn : n ≤ 8) {k : Nat} (hk : k < n) : ∀ d q, q + d = n → q ≤ bt k → mMan f n (nI k) d q = nI (bt k)
  | 0, q, h1, h2 => by have := h.lt k hk; omega
  | d + 1, q, h1, h2 => by
    unfold mMan
    have hb := oBf_le (fun q => (f q).toInt) q n
    rw [mBefS_o]
    by_cases c : oBf (fun q => (f q).toInt) q n = k
    · rw [if_pos (by rw [c]), h.uniq (by omega) c]
    · rw [if_neg (fun z => c ((nI_eq (by omega) (by omega)).mp z))]
      refine mMan_o h hn hk d (q + 1) (by omega) ?_
      have : q ≠ bt k := fun z => c (by rw [z]; exact h.pl k hk)
      omega
end
