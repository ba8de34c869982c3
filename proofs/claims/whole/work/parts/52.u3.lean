section
/-! pure part 3: the cheapest carton of each set -/
theorem nI_mul (a b : Nat) : nI a * nI b = nI (a * b) := (Int32.ofNat_mul a b).symm
theorem u_price (y : Nat) : nI y * 9 + 1 = nI (9 * y + 1) := by
  have h1 : nI y * nI 9 = nI (y * 9) := nI_mul y 9
  have h2 : nI (y * 9) + 1 = nI (y * 9 + 1) := nI_1 _
  rw [show (9 : Int32) = nI 9 from rfl, h1, h2, Nat.mul_comm]
theorem u_NO : (7200009 : Int32) = nI 7200009 := rfl
theorem u_m1lt : (-1 : Int32) < 0 := by decide
abbrev rT (C M : Nat → Nat → Int32) (nc x p : Nat) : Prop := (C 401 x = nI p) ∧ ((C 400 x = -1 ∧ M 23 x = -1 ∧ p = 7200009) ∨ ∃ c y : Nat, c < nc ∧ C 400 x = nI c ∧ M 23 x = nI c ∧ M 6 c = nI y ∧ 1 ≤ y ∧ y ≤ 100000 ∧ p = 9 * y + 1)
theorem rT.pr {C M : Nat → Nat → Int32} {nc x p : Nat} (h0 : rT C M nc x p) : C 401 x = nI p := h0.1
theorem rT.or {C M : Nat → Nat → Int32} {nc x p : Nat} (h0 : rT C M nc x p) : (C 400 x = -1 ∧ M 23 x = -1 ∧ p = 7200009) ∨ ∃ c y : Nat, c < nc ∧ C 400 x = nI c ∧ M 23 x = nI c ∧ M 6 c = nI y ∧ 1 ≤ y ∧ y ≤ 100000 ∧ p = 9 * y + 1 := h0.2
theorem rT.le {C M : Nat → Nat → Int32} {nc x p : Nat} (h : rT C M nc x p) : p ≤ 7200009 := by
  rcases h.or with ⟨_, _, e⟩ | ⟨c, y, _, _, _, _, _, _, e⟩ <;> omega
theorem rCh {C M : Nat → Nat → Int32} {nc np : Nat} {bt bs : Nat → Nat} (h : rD C M nc np bt bs) (st : Nat) : ∀ c, c ≤ nc →
    (((mFB M bt (nI st) np c).2 = -1 ∧ fCh C bt st np c 400 st = -1 ∧ fCh C bt st np c 401 st = nI 7200009) ∨
      ∃ b y : Nat, b < c ∧ (mFB M bt (nI st) np c).2 = nI b ∧ fCh C bt st np c 400 st = nI b ∧ M 6 b = nI y ∧ 1 ≤ y ∧ y ≤ 100000 ∧ fCh C bt st np c 401 st = nI (9 * y + 1)) ∧
    ∀ x, x ≠ st → fCh C bt st np c 400 x = C 400 x ∧ fCh C bt st np c 401 x = C 401 x
  | 0, _ => by
    refine ⟨Or.inl ⟨rfl, ?_, ?_⟩, fun x hx => ⟨?_, ?_⟩⟩ <;> simp [fCh, gS, u_NO] <;> (intro z; exact absurd z hx)
  | c + 1, hc => by
    obtain ⟨ih, ihx⟩ := rCh h st c (by omega)
    have hd : rD (fCh C bt st np c) (mFB M bt (nI st) np c).1 nc np bt bs :=
      h.mv (fun i hi => fCh_fix C bt st np (by rcases hi with z | z | z <;> omega) (by rcases hi with z | z | z <;> omega) (by rcases hi with z | z | z <;> omega) c) (fun i h1 h2 => mFB_fix M bt (nI st) np (Or.inl (by omega)) c)
    have hh := hd.held (nI st) (c := c) (by omega)
    obtain ⟨y, y1, y2, ey⟩ := h.cr c (by omega)
    have hp : fCh C bt st np c 103 c * 9 + 1 = nI (9 * y + 1) := by
      rw [fCh_fix C bt st np (i := 103) (Or.inl (by omega)) (by omega) (by omega) c, h.ce c (by omega), ey, u_price]
    have eM : (mFB M bt (nI st) np (c + 1)).2 = if mPackR (mPk (mFB M bt (nI st) np c).1 bt (nI st) c np) c = 0 then (mFB M bt (nI st) np c).2 else if (mFB M bt (nI st) np c).2 < 0 then nI c else if M 6 (mFB M bt (nI st) np c).2.toNatClampNeg ≤ M 6 c then (mFB M bt (nI st) np c).2 else nI c := rfl
    have eC : fCh C bt st np (c + 1) = if fCh C bt st np c 401 st ≤ nI (9 * y + 1) then fCh C bt st np c else if mPackR (mPk (mFB M bt (nI st) np c).1 bt (nI st) c np) c = 0 then fHeldU (fCh C bt st np c) bt (nI st) c np else gSt (gSt (fHeldU (fCh C bt st np c) bt (nI st) c np) 400 st (nI c)) 401 st (nI (9 * y + 1)) := by
      rw [← hh, ← hp]; rfl
    have u4 : fHeldU (fCh C bt st np c) bt (nI st) c np 400 = fCh C bt st np c 400 := fHeldU_fix _ _ _ _ _ (Or.inr (by omega))
    have u5 : fHeldU (fCh C bt st np c) bt (nI st) c np 401 = fCh C bt st np c 401 := fHeldU_fix _ _ _ _ _ (Or.inr (by omega))
    refine ⟨?_, fun x hx => ?_⟩
    · rw [eM, eC]
      rcases ih with ⟨a1, a2, a3⟩ | ⟨b, z, b0, a1, a2, b1, b2, b3, a3⟩
      · rw [a1, a3, if_neg (nI_ge (by omega) (by omega)), if_pos u_m1lt]
        by_cases k : mPackR (mPk (mFB M bt (nI st) np c).1 bt (nI st) c np) c = 0
        · rw [if_pos k, if_pos k, u4, u5]
          exact Or.inl ⟨rfl, a2, a3⟩
        · rw [if_neg k, if_neg k]
          exact Or.inr ⟨c, y, by omega, rfl, by simp [gS], ey, y1, y2, by simp [gS]⟩
      · have hc4 := h.nc4
        rw [a1, a3, nI_clamp (by omega), b1, ey, if_neg (nI_pos (by omega))]
        by_cases k : mPackR (mPk (mFB M bt (nI st) np c).1 bt (nI st) c np) c = 0
        · rw [if_pos k, if_pos k]
          refine Or.inr ⟨b, z, by omega, rfl, ?_, b1, b2, b3, ?_⟩
          · split
            · exact a2
            · rw [u4]; exact a2
          · split
            · exact a3
            · rw [u5]; exact a3
        · rw [if_neg k, if_neg k]
          by_cases w : z ≤ y
          · rw [if_pos (nI_le w (by omega)), if_pos (nI_le (by omega) (by omega))]
            exact Or.inr ⟨b, z, by omega, rfl, a2, b1, b2, b3, a3⟩
          · rw [if_neg (nI_ge (by omega) (by omega)), if_neg (nI_ge (by omega) (by omega))]
            exact Or.inr ⟨c, y, by omega, rfl, by simp [gS], ey, y1, y2, by simp [gS]⟩
    · rw [eC]
      obtain ⟨i1, i2⟩ := ihx x hx
      split
      · exact ⟨i1, i2⟩
      · split
        · rw [u4, u5]; exact ⟨i1, i2⟩
        · refine ⟨?_, ?_⟩
          · simp [gS, hx, u4, i1]
          · simp [gS, hx, u5, i2]
theorem fFS_fix (C : Nat → Nat → Int32) (bt : Nat → Nat) (nc np : Nat) {i : Nat} (h : i ≤ 200 ∨ 208 < i) (h1 : i ≠ 400) (h2 : i ≠ 401) (h3 : i ≠ 404) (h4 : i ≠ 405) : ∀ j, fFS C bt nc np j i = C i
  | 0 => (gSt_ne _ _ _ _ h4).trans (gSt_ne _ _ _ _ h3)
  | j + 1 => by
    unfold fFS
    rw [gSt_ne _ _ _ _ h4, fCh_fix _ _ _ _ h h1 h2, fFS_fix C bt nc np h h1 h2 h3 h4 j]
theorem mFBs_fix (M : Nat → Nat → Int32) (bt : Nat → Nat) (nc np : Nat) {i : Nat} (h : i < 15 ∨ 22 < i) (h1 : i ≠ 23) : ∀ j, mFBs M bt nc np j i = M i
  | 0 => rfl
  | j + 1 => by
    unfold mFBs
    rw [gSt_ne _ _ _ _ h1, mFB_fix _ _ _ _ h, mFBs_fix M bt nc np h h1 j]
theorem rFS {C M : Nat → Nat → Int32} {nc np : Nat} {bt bs : Nat → Nat} (h : rD C M nc np bt bs) : ∀ j,
    (∀ x, 1 ≤ x → x ≤ j → ∃ p, rT (fFS C bt nc np j) (mFBs M bt nc np j) nc x p) ∧
    ∃ lp, lp ≤ 7200009 ∧ fFS C bt nc np j 405 0 = nI lp ∧ ∀ x, 1 ≤ x → x ≤ j → ∀ p, rT (fFS C bt nc np j) (mFBs M bt nc np j) nc x p → lp ≤ p
  | 0 => ⟨fun x h1 h2 => by omega, 7200009, Nat.le_refl _, by simp [fFS, gS, u_NO], fun x h1 h2 => by omega⟩
  | j + 1 => by
    obtain ⟨ih1, lp, hl, el, ih2⟩ := rFS h j
    have hd : rD (fFS C bt nc np j) (mFBs M bt nc np j) nc np bt bs :=
      h.mv (fun i hi => fFS_fix C bt nc np (by rcases hi with z | z | z <;> omega) (by rcases hi with z | z | z <;> omega) (by rcases hi with z | z | z <;> omega) (by rcases hi with z | z | z <;> omega) (by rcases hi with z | z | z <;> omega) j) (fun i h1 h2 => mFBs_fix M bt nc np (Or.inl (by omega)) (by omega) j)
    obtain ⟨hn, ho⟩ := rCh hd (j + 1) nc (Nat.le_refl _)
    have e5 : fCh (fFS C bt nc np j) bt (j + 1) np nc 405 0 = nI lp := by rw [fCh_fix _ _ _ _ (Or.inr (by omega)) (by omega) (by omega)]; exact el
    have s4 : fFS C bt nc np (j + 1) 400 = fCh (fFS C bt nc np j) bt (j + 1) np nc 400 := gSt_ne _ _ _ _ (by omega)
    have s1 : fFS C bt nc np (j + 1) 401 = fCh (fFS C bt nc np j) bt (j + 1) np nc 401 := gSt_ne _ _ _ _ (by omega)
    have m6 : mFBs M bt nc np (j + 1) 6 = M 6 := mFBs_fix M bt nc np (Or.inl (by omega)) (by omega) _
    have m6' : mFBs M bt nc np j 6 = M 6 := mFBs_fix M bt nc np (Or.inl (by omega)) (by omega) _
    have m23 : ∀ x, mFBs M bt nc np (j + 1) 23 x = if x = j + 1 then (mFB (mFBs M bt nc np j) bt (nI (j + 1)) np nc).2 else mFBs M bt nc np j 23 x := fun x => by
      show gSt _ 23 (j + 1) _ 23 x = _
      rw [gS, mFB_fix _ _ _ _ (i := 23) (Or.inr (by omega))]
      simp
    have old : ∀ x, 1 ≤ x → x ≤ j → ∀ p, rT (fFS C bt nc np (j + 1)) (mFBs M bt nc np (j + 1)) nc x p ↔ rT (fFS C bt nc np j) (mFBs M bt nc np j) nc x p := by
      intro x h1 h2 p
      obtain ⟨o1, o2⟩ := ho x (by omega)
      have o3 : mFBs M bt nc np (j + 1) 23 x = mFBs M bt nc np j 23 x := by rw [m23, if_neg (by omega)]
      constructor
      · rintro ⟨r1, r2⟩
        rw [s1, o2] at r1
        rw [s4, o1, o3, m6, ← m6'] at r2
        exact ⟨r1, r2⟩
      · rintro ⟨r1, r2⟩
        refine ⟨?_, ?_⟩
        · rw [s1, o2]; exact r1
        · rw [s4, o1, o3, m6, ← m6']; exact r2
    have new : ∃ p, p ≤ 7200009 ∧ rT (fFS C bt nc np (j + 1)) (mFBs M bt nc np (j + 1)) nc (j + 1) p := by
      rcases hn with ⟨a1, a2, a3⟩ | ⟨b, z, b0, a1, a2, b1, b2, b3, a3⟩
      · exact ⟨7200009, Nat.le_refl _, by rw [s1]; exact a3, Or.inl ⟨by rw [s4]; exact a2, by rw [m23, if_pos rfl]; exact a1, rfl⟩⟩
      · exact ⟨9 * z + 1, by omega, by rw [s1]; exact a3, Or.inr ⟨b, z, b0, by rw [s4]; exact a2, by rw [m23, if_pos rfl]; exact a1, by rw [m6, ← m6']; exact b1, b2, b3, rfl⟩⟩
    obtain ⟨p, p7, hp⟩ := new
    refine ⟨fun x h1 h2 => ?_, if p < lp then p else lp, by split <;> omega, ?_, fun x h1 h2 r hr => ?_⟩
    · by_cases c : x = j + 1
      · subst c; exact ⟨p, hp⟩
      · obtain ⟨r, hr⟩ := ih1 x h1 (by omega)
        exact ⟨r, (old x h1 (by omega) r).mpr hr⟩
    · show gSt _ 405 0 _ 405 0 = _
      rw [gS, if_pos ⟨rfl, rfl⟩, e5, show fCh (fFS C bt nc np j) bt (j + 1) np nc 401 (j + 1) = nI p from by rw [← s1]; exact hp.pr]
      by_cases c : p < lp
      · rw [if_pos c, if_pos (nI_lt c (by omega))]
      · rw [if_neg c, if_neg (nI_nlt (by omega) (by omega))]
    · by_cases c : x = j + 1
      · subst c
        have : r = p := (nI_eq (by have := hr.le; omega) (by omega)).mp (by rw [← hr.pr, ← hp.pr])
        split <;> omega
      · have := ih2 x h1 (by omega) r ((old x h1 (by omega) r).mp hr)
        split <;> omega
end
