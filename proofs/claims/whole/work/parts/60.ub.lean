section
/-! pure part 11: counted, and the calls that ask for shares -/
section OPS
variable {C M : Nat → Nat → Int32} {nc np nb : Nat} {bt bs kc : Nat → Nat}
theorem fJ_s (σ : Nat → Nat → Int32) (b : Nat) (wt : Int32) : ∀ d k, fJ σ b wt d k = 1 ∨ fJ σ b wt d k = 2
  | 0, _ => Or.inl rfl
  | d + 1, k => by
    unfold fJ
    split
    · exact Or.inr rfl
    · split
      · exact fJ_s σ b wt d (k + 1)
      · exact Or.inr rfl
theorem fJ_1 (σ : Nat → Nat → Int32) (b : Nat) (wt : Int32) : ∀ d k, (fJ σ b wt d k = 1 ↔ ∀ j, k ≤ j → j < k + d → fMore σ b j wt = 0 ∧ fLess σ b j wt = 0)
  | 0, k => ⟨fun _ j h1 h2 => by omega, fun _ => rfl⟩
  | d + 1, k => by
    have ih := fJ_1 σ b wt d (k + 1)
    unfold fJ
    by_cases a : fMore σ b k wt = 0
    · rw [if_neg (by simpa using a)]
      by_cases c : fLess σ b k wt = 0
      · rw [if_pos c, ih]
        refine ⟨fun h j h1 h2 => ?_, fun h j h1 h2 => h j (by omega) (by omega)⟩
        by_cases e : j = k
        · subst e; exact ⟨a, c⟩
        · exact h j (by omega) (by omega)
      · rw [if_neg c]
        exact ⟨fun z => absurd z (by decide), fun z => absurd (z k (by omega) (by omega)).2 c⟩
    · rw [if_pos a]
      exact ⟨fun z => absurd z (by decide), fun z => absurd (z k (by omega) (by omega)).1 a⟩
theorem mUns_s (H : rBg C M nb kc) {b : Nat} (hb : b < 4) (wt : Int32) : ∀ n, n ≤ kc b → (mUns M wt (C 3 b) (C 4 b) b n = 0 ↔ ∀ j, j < n → fMore C b j wt = 0 ∧ fLess C b j wt = 0)
  | 0, _ => ⟨fun _ j h => by omega, fun _ => rfl⟩
  | n + 1, hn => by
    have ih := mUns_s H hb wt n (by omega)
    have e1 := H.r1 b hb n (by omega)
    have e2 := H.r2 b hb n (by omega)
    have e3 := H.r3 b hb n (by omega)
    have key : (∀ j, j < n + 1 → fMore C b j wt = 0 ∧ fLess C b j wt = 0) ↔ (∀ j, j < n → fMore C b j wt = 0 ∧ fLess C b j wt = 0) ∧ fMore C b n wt = 0 ∧ fLess C b n wt = 0 := by
      constructor
      · intro h; exact ⟨fun j hj => h j (by omega), h n (by omega)⟩
      · rintro ⟨h1, h2⟩ j hj
        by_cases e : j = n
        · rw [e]; exact h2
        · exact h1 j (by omega)
    have eq : mUns M wt (C 3 b) (C 4 b) b (n + 1) = if ¬ mUns M wt (C 3 b) (C 4 b) b n = 0 then 1 else if M 31 (6 * b + n) ≤ 0 then mWithin wt (C 3 b + M 32 (6 * b + n)) (C 4 b + M 33 (6 * b + n)) else if ¬ mWithin wt (C 3 b - M 32 (6 * b + n)) (C 4 b - M 33 (6 * b + n)) = 0 then 1 else mWithin wt (C 3 b + M 32 (6 * b + n)) (C 4 b + M 33 (6 * b + n)) := rfl
    rw [key, ← ih, eq]
    unfold fMore fLess
    rw [e1, e2, e3]
    rcases mWithin01 wt (C 3 b - M 32 (6 * b + n)) (C 4 b - M 33 (6 * b + n)) with w1 | w1 <;> rcases mWithin01 wt (C 3 b + M 32 (6 * b + n)) (C 4 b + M 33 (6 * b + n)) with w2 | w2 <;> by_cases z : mUns M wt (C 3 b) (C 4 b) b n = 0 <;> by_cases y : M 31 (6 * b + n) ≤ 0 <;> simp [w1, w2, z, y]
theorem q_counted (H : rAll C M nc np nb bt bs kc) (bg wt : Int32) :
    (fPlc bg (C 6 0) = 0 ∧ mCntC nb bg wt = 1) ∨ (¬ fPlc bg (C 6 0) = 0 ∧ ¬ 0 ≤ wt ∧ mCntC nb bg wt = 2) ∨
    (∃ b, b < nb ∧ bg = nI b ∧ 0 ≤ wt ∧ mCntC nb bg wt = 0 ∧ mCntR M nb kc bg wt = fJudge C b (kc b) wt) := by
  have h4 := H.b.nb4
  rw [H.b.cB, u_plc (by omega)]
  by_cases a : mIn bg 0 (nI nb - 1) = 0
  · exact Or.inl ⟨a, by unfold mCntC; rw [if_pos a]⟩
  · obtain ⟨b, hb, rfl⟩ := mIn_nat (by omega) a
    by_cases c : 0 ≤ wt
    · have e : mCntC nb (nI b) wt = 0 := by unfold mCntC; rw [if_neg a, if_pos c]
      refine Or.inr (Or.inr ⟨b, hb, rfl, c, e, ?_⟩)
      unfold mCntR mCntV fJudge
      rw [if_pos e, nI_clamp (by omega), ← H.b.s1 b (by omega), ← H.b.s2 b (by omega)]
      by_cases z : mWithin wt (C 3 b) (C 4 b) = 0
      · rw [if_pos z, if_pos z]
      · rw [if_neg z, if_neg z]
        have hu := mUns_s H.b (b := b) (by omega) wt (kc b) (Nat.le_refl _)
        have hj := fJ_1 C b wt (kc b) 0
        by_cases y : mUns M wt (C 3 b) (C 4 b) b (kc b) = 0
        · rw [if_pos y]
          exact (hj.mpr (fun j _ h2 => hu.mp y j (by omega))).symm
        · rw [if_neg y]
          rcases fJ_s C b wt (kc b) 0 with x | x
          · exact absurd (hu.mpr (fun j hj2 => hj.mp x j (by omega) (by omega))) y
          · exact x.symm
    · exact Or.inr (Or.inl ⟨a, c, by unfold mCntC; rw [if_neg a, if_neg c]⟩)
theorem q_sh (H : rAll C M nc np nb bt bs kc) : (C 503 0 = -1 ∧ M 24 0 = 0) ∨ ∃ nbx r cx, ¬ C 503 0 = -1 ∧ ¬ M 24 0 = 0 ∧ nbx ≤ 8 ∧ rOk C M nc np bt nbx r cx ∧ mShOK (gSt M 0 0 0) np nbx r (fun b => sB r b np) cx := by
  have h8 := H.d.np8
  have h4 := H.d.nc4
  have go : ∀ nbx r cx, M 24 0 = 1 → rOk C M nc np bt nbx r cx → ¬ C 503 0 = -1 ∧ ¬ M 24 0 = 0 ∧ nbx ≤ 8 ∧ rOk C M nc np bt nbx r cx ∧ mShOK (gSt M 0 0 0) np nbx r (fun b => sB r b np) cx := by
    intro nbx r cx h1 h2
    have hle := h2.g.le
    have h28 := p28 h8
    refine ⟨by rw [h2.c3]; exact nI_nm1 (by omega), by rw [h1]; decide, by omega, h2, fun q hq => ⟨by rw [gSt_ne _ _ _ _ (by omega)]; exact h2.s6 q hq, h2.g.rl q hq⟩, by omega, by rw [gSt_ne _ _ _ _ (by omega)]; exact h2.s5, fun b hb => ⟨mSets_28 _ _ np h8 b (by omega), by have := sB_lt r b np; show sB r b np < 256; omega, by rw [gSt_ne _ _ _ _ (by omega)]; exact h2.s3 b hb, by have := h2.cc b hb; omega⟩, by rw [mSets_n, h2.g.n]⟩
  rcases H.h with ⟨-, a, b⟩ | ⟨-, -, ⟨a, b⟩ | ⟨nbx, r, cx, a, b⟩⟩
  · exact Or.inl ⟨a, b⟩
  · exact Or.inl ⟨a, b⟩
  · exact Or.inr ⟨nbx, r, cx, go nbx r cx a b⟩
theorem q_st (H : rAll C M nc np nb bt bs kc) (r : Nat → Nat) : rAll C (mSets (gSt M 0 0 0) r np).1 nc np nb bt bs kc ∧ (mSets (gSt M 0 0 0) r np).1 0 0 = 0 :=
  ⟨(H.m0 0).mv (fun _ _ => rfl) H.c5 (fun i _ _ _ h4 => mSets_fix _ _ h4 np) (by rw [mSets_fix _ _ (by omega)]; exact (H.m0 0).m2), by rw [mSets_fix _ _ (by omega)]; simp [gS]⟩
theorem q_bu (H : rAll C M nc np nb bt bs kc) (r sx cx : Nat → Nat) (b : Nat) : rAll C (mBoxU (gSt M 0 0 0) r bt sx cx np b) nc np nb bt bs kc ∧ mBoxU (gSt M 0 0 0) r bt sx cx np b 0 0 = 0 :=
  ⟨(q_st H r).1.mv (fun _ _ => rfl) H.c5 (fun i _ h2 _ _ => mPk_fix _ _ _ _ h2 np) (mPk_22 _ _ _ _ (q_st H r).1.m2 np), by rw [mBoxU_fix _ _ _ _ _ _ _ (Or.inl (by omega)) (by omega)]; simp [gS]⟩
theorem q_pk (H : rAll C M nc np nb bt bs kc) {nbx : Nat} {r cx : Nat → Nat} (hk : rOk C M nc np bt nbx r cx) {b : Nat} (hb : b < nbx) :
    ∃ (X : Nat → Nat → Int32) (L : Nat), L ≤ 8 ∧ fLn X = L ∧ mLn (mBoxU (gSt M 0 0 0) r bt (fun b => sB r b np) cx np b) = L ∧ rP X (mBoxU (gSt M 0 0 0) r bt (fun b => sB r b np) cx np b) L (fun q => q < np ∧ r q = b) ∧ rRow C X np b (cx b) r := by
  obtain ⟨τ, t1, t2⟩ := hk.tab.rw b hb
  have h8 := H.d.np8
  have hd : rD τ (mSets (gSt M 0 0 0) r np).1 nc np bt bs := (q_st H r).1.d.mv t1 (fun _ _ _ => rfl)
  obtain ⟨L, hL, hp⟩ := rP.all hd (nI (sB r b np)) (hk.cc b hb)
  refine ⟨_, L, hL, ?_, ?_, ?_, t2⟩
  · unfold fLn; rw [hp.l1, nI_clamp (by omega)]
  · unfold mLn mBoxU; rw [hp.l2, nI_clamp (by omega)]
  · obtain ⟨l1, l2, a1, a2, a3, a4, a5, p1, p2⟩ := hp
    refine ⟨l1, l2, a1, a2, a3, a4, a5, fun q hq => p1 q ⟨hq.1, fun z => (sB_has hq.1 h8).mp z hq.2⟩, fun q hq => p2 q ⟨hq.1, fun z => (sB_has hq.1 h8).mp z hq.2⟩⟩
def qL (M : Nat → Nat → Int32) (np : Nat) (bt r cx : Nat → Nat) (b : Nat) : Nat := mLn (mBoxU (gSt M 0 0 0) r bt (fun b => sB r b np) cx np b)
def qLf (M : Nat → Nat → Int32) (np : Nat) (bt r cx : Nat → Nat) (q : Nat) : Nat := qL M np bt r cx (r q)
def qLp (M : Nat → Nat → Int32) (np : Nat) (bt r cx : Nat → Nat) (q : Nat) : Nat := (mBoxU (gSt M 0 0 0) r bt (fun b => sB r b np) cx np (r q) 15 q).toNatClampNeg
theorem q_atok (H : rAll C M nc np nb bt bs kc) {nbx : Nat} {r cx : Nat → Nat} (hk : rOk C M nc np bt nbx r cx) : ∀ q, q < np → mAtOK (mBoxU (gSt M 0 0 0) r bt (fun b => sB r b np) cx np (r q)) q (qLf M np bt r cx q) (qLp M np bt r cx q) := by
  intro q hq
  obtain ⟨X, L, hL, e1, e2, hp, -⟩ := q_pk H hk (hk.g.rl q hq)
  obtain ⟨j, hj, x1, x2⟩ := hp.p1 q ⟨hq, rfl⟩
  have e3 : qLp M np bt r cx q = j := by unfold qLp; rw [x2, nI_clamp (by omega)]
  have e4 : qLf M np bt r cx q = L := e2
  rw [e3, e4]
  exact ⟨hp.l2, hL, x2, by omega, (q_bu H r _ cx (r q)).1.m2⟩
theorem q_at (H : rAll C M nc np nb bt bs kc) {nbx : Nat} {r cx : Nat → Nat} (h24 : ¬ M 24 0 = 0) (hk : rOk C M nc np bt nbx r cx) (pt wh : Int32) :
    ((fPlc pt (C 308 0) = 0 ∨ fPlc wh 4 = 0) ∧ mAtU M np r bt (fun b => sB r b np) cx pt wh 0 0 = 2 ∧ Rel C (mAtU M np r bt (fun b => sB r b np) cx pt wh)) ∨
    (∃ q w : Nat, q < np ∧ w < 4 ∧ pt = nI q ∧ wh = nI w ∧ mAtU M np r bt (fun b => sB r b np) cx pt wh 0 0 = 0 ∧ mAtR M np r bt (fun b => sB r b np) cx (qLf M np bt r cx) (qLp M np bt r cx) pt wh = C (1000 + q) w ∧ Rel C (mAtU M np r bt (fun b => sB r b np) cx pt wh)) := by
  have h8 := H.d.np8
  rw [H.d.pN, u_plc (by omega), u_plc4]
  by_cases a : mIn pt 0 (nI np - 1) = 0 ∨ mIn wh 0 3 = 0
  · have e : mAtC M np pt wh = 2 := by
      unfold mAtC
      rw [if_neg h24]
      by_cases z : mIn pt 0 (nI np - 1) = 0
      · rw [if_pos z]
      · rw [if_neg z, if_pos (a.resolve_left z)]
    have eU : mAtU M np r bt (fun b => sB r b np) cx pt wh = gSt M 0 0 2 := by unfold mAtU; rw [e]; rw [if_neg (by decide)]
    rw [eU]
    exact Or.inl ⟨a, by simp [gS], ⟨nc, np, nb, bt, bs, kc, H.m0 2⟩⟩
  · have a1 : ¬ mIn pt 0 (nI np - 1) = 0 := fun z => a (Or.inl z)
    have a2 : ¬ mIn wh 0 3 = 0 := fun z => a (Or.inr z)
    obtain ⟨q, hq, rfl⟩ := mIn_nat (by omega) a1
    obtain ⟨w, hw, rfl⟩ := mIn_nat (n := 4) (by omega) a2
    have e : mAtC M np (nI q) (nI w) = 0 := by unfold mAtC; rw [if_neg h24, if_neg a1, if_neg a2]
    have ec : (nI q).toNatClampNeg = q := nI_clamp (by omega)
    have eU : mAtU M np r bt (fun b => sB r b np) cx (nI q) (nI w) = mBoxU (gSt M 0 0 0) r bt (fun b => sB r b np) cx np (r q) := by unfold mAtU; rw [if_pos e, ec]
    rw [eU]
    refine Or.inr ⟨q, w, hq, hw, rfl, rfl, (q_bu H r _ cx (r q)).2, ?_, ⟨nc, np, nb, bt, bs, kc, (q_bu H r _ cx (r q)).1⟩⟩
    obtain ⟨X, L, hL, e1, e2, hp, hrow⟩ := q_pk H hk (hk.g.rl q hq)
    obtain ⟨j, hj, x1, x2⟩ := hp.p1 q ⟨hq, rfl⟩
    have e3 : qLp M np bt r cx q = j := by unfold qLp; rw [x2, nI_clamp (by omega)]
    have e4 : qLf M np bt r cx q = L := e2
    have e5 : fLo X q = j := by unfold fLo; rw [x1, nI_clamp (by omega)]
    unfold mAtR mAtV
    rw [if_pos e, ec, e3, e4]
    rcases (show w = 0 ∨ w = 1 ∨ w = 2 ∨ w = 3 by omega) with rfl | rfl | rfl | rfl
    · rw [if_neg (by decide), hrow.q0 q hq rfl]
    · rw [if_pos (by decide), if_neg (by decide), hrow.q1 q hq rfl, e5, e1, hp.ly hj L (Nat.le_refl _)]
    · rw [if_pos (by decide), if_pos (by decide), if_neg (by decide), hrow.q2 q hq rfl, hp.p2 q ⟨hq, rfl⟩]
    · rw [if_pos (by decide), if_pos (by decide), if_pos (by decide), hrow.q3 q hq rfl, e5, e1, hp.lz hj L (Nat.le_refl _)]
theorem q_boxok (H : rAll C M nc np nb bt bs kc) {nbx : Nat} {r cx : Nat → Nat} (hk : rOk C M nc np bt nbx r cx) : ∀ b, b < nbx → (mBoxU (gSt M 0 0 0) r bt (fun b => sB r b np) cx np b) 17 0 = nI (qL M np bt r cx b) ∧ qL M np bt r cx b ≤ 8 := by
  intro b hb
  obtain ⟨X, L, hL, e1, e2, hp, -⟩ := q_pk H hk hb
  have e4 : qL M np bt r cx b = L := e2
  rw [e4]
  exact ⟨hp.l2, hL⟩
theorem q_box (H : rAll C M nc np nb bt bs kc) {nbx : Nat} {r cx : Nat → Nat} (h24 : ¬ M 24 0 = 0) (hn : nbx ≤ 8) (hk : rOk C M nc np bt nbx r cx) (bv wh : Int32) :
    ((fPlc bv (C 503 0) = 0 ∨ fPlc wh 5 = 0) ∧ mBxU M np nbx r bt (fun b => sB r b np) cx bv wh 0 0 = 2 ∧ Rel C (mBxU M np nbx r bt (fun b => sB r b np) cx bv wh)) ∨
    (∃ b w : Nat, b < nbx ∧ w < 5 ∧ bv = nI b ∧ wh = nI w ∧ mBxU M np nbx r bt (fun b => sB r b np) cx bv wh 0 0 = 0 ∧ mBxR M np nbx r bt (fun b => sB r b np) cx (qL M np bt r cx) bv wh = C (1100 + b) w ∧ Rel C (mBxU M np nbx r bt (fun b => sB r b np) cx bv wh)) := by
  have h8 := H.d.np8
  rw [hk.c3, u_plc (by omega), u_plc5]
  by_cases a : mIn bv 0 (nI nbx - 1) = 0 ∨ mIn wh 0 4 = 0
  · have e : mBxC M nbx bv wh = 2 := by
      unfold mBxC
      rw [if_neg h24]
      by_cases z : mIn bv 0 (nI nbx - 1) = 0
      · rw [if_pos z]
      · rw [if_neg z, if_pos (a.resolve_left z)]
    have eU : mBxU M np nbx r bt (fun b => sB r b np) cx bv wh = gSt M 0 0 2 := by unfold mBxU; rw [e]; rw [if_neg (by decide)]
    rw [eU]
    exact Or.inl ⟨a, by simp [gS], ⟨nc, np, nb, bt, bs, kc, H.m0 2⟩⟩
  · have a1 : ¬ mIn bv 0 (nI nbx - 1) = 0 := fun z => a (Or.inl z)
    have a2 : ¬ mIn wh 0 4 = 0 := fun z => a (Or.inr z)
    obtain ⟨b, hb, rfl⟩ := mIn_nat (by omega) a1
    obtain ⟨w, hw, rfl⟩ := mIn_nat (n := 5) (by omega) a2
    have e : mBxC M nbx (nI b) (nI w) = 0 := by unfold mBxC; rw [if_neg h24, if_neg a1, if_neg a2]
    have ec : (nI b).toNatClampNeg = b := nI_clamp (by omega)
    have eU : mBxU M np nbx r bt (fun b => sB r b np) cx (nI b) (nI w) = mBoxU (gSt M 0 0 0) r bt (fun b => sB r b np) cx np b := by unfold mBxU; rw [if_pos e, ec]
    rw [eU]
    refine Or.inr ⟨b, w, hb, hw, rfl, rfl, (q_bu H r _ cx b).2, ?_, ⟨nc, np, nb, bt, bs, kc, (q_bu H r _ cx b).1⟩⟩
    obtain ⟨X, L, hL, e1, e2, hp, hrow⟩ := q_pk H hk hb
    have e4 : qL M np bt r cx b = L := e2
    unfold mBxR mBxV
    rw [if_pos e, ec, e4]
    rcases (show w = 0 ∨ w = 1 ∨ w = 2 ∨ w = 3 ∨ w = 4 by omega) with rfl | rfl | rfl | rfl | rfl
    · rw [if_neg (by decide), hrow.b0]
    · rw [if_pos (by decide), if_neg (by decide), hrow.b1, fBits_s r b np h8]
      refine mBoxN_s (by omega) np (fun k hk2 => ⟨?_, by have := hk.g.rl k hk2; omega⟩)
      rw [mBoxU_fix _ _ _ _ _ _ _ (Or.inr (by omega)) (by omega), gSt_ne _ _ _ _ (by omega)]
      exact hk.s6 k hk2
    · rw [if_pos (by decide), if_pos (by decide), if_neg (by decide), hrow.b2, (q_bu H r (fun b => sB r b np) cx b).1.d.grams]
    · rw [if_pos (by decide), if_pos (by decide), if_pos (by decide), if_neg (by decide), hrow.b3, e1]
    · rw [if_pos (by decide), if_pos (by decide), if_pos (by decide), if_pos (by decide), hrow.b4, e1]
      exact (u_sum_congr L (fun j hj => hp.e2 j hj)).symm
theorem mCost_c {σ : Nat → Nat → Int32} {sx cx : Nat → Nat} {n : Nat} (h : ∀ b, b < n → σ 23 (sx b) = nI (cx b) ∧ cx b < 4) : ∀ d b, b + d = n → mCost σ sx d b (mSum (fun b => σ 6 (cx b)) b) = mSum (fun b => σ 6 (cx b)) n
  | 0, b, e => by rw [show b = n by omega]; rfl
  | d + 1, b, e => by
    obtain ⟨h1, h2⟩ := h b (by omega)
    unfold mCost
    rw [h1, if_pos (nI_pos' (by omega)), nI_clamp (by omega)]
    exact mCost_c h d (b + 1) (by omega)
theorem q_cost (H : rAll C M nc np nb bt bs kc) {nbx : Nat} {r cx : Nat → Nat} (h24 : ¬ M 24 0 = 0) (hk : rOk C M nc np bt nbx r cx) :
    mCostR M np nbx r (fun b => sB r b np) = C 504 0 ∧ mCostU M np r 0 0 = 0 ∧ Rel C (mCostU M np r) := by
  have h4 := H.d.nc4
  have eU : mCostU M np r = (mSets (gSt M 0 0 0) r np).1 := by unfold mCostU; rw [if_neg h24]
  rw [eU]
  refine ⟨?_, (q_st H r).2, ⟨nc, np, nb, bt, bs, kc, (q_st H r).1⟩⟩
  unfold mCostR
  rw [if_neg h24, hk.tab.ct]
  have := mCost_c (σ := (mSets (gSt M 0 0 0) r np).1) (sx := fun b => sB r b np) (cx := cx) (n := nbx) (fun b hb => ⟨by rw [mSets_fix _ _ (by omega), gSt_ne _ _ _ _ (by omega)]; exact hk.s3 b hb, by have := hk.cc b hb; omega⟩) nbx 0 (by omega)
  refine Eq.trans this ?_
  exact u_sum_congr nbx (fun b hb => by rw [(q_st H r).1.d.ce _ (hk.cc b hb)])
theorem q_raised (H : rAll C M nc np nb bt bs kc) {nbx : Nat} {r cx : Nat → Nat} (h24 : ¬ M 24 0 = 0) (hn : nbx ≤ 8) (hk : rOk C M nc np bt nbx r cx) (bv rm : Int32) :
    (fPlc bv (C 503 0) = 0 ∧ mRaiU M np nbx r bt (fun b => sB r b np) cx bv rm 0 0 = 2 ∧ Rel C (mRaiU M np nbx r bt (fun b => sB r b np) cx bv rm)) ∨
    (¬ fPlc bv (C 503 0) = 0 ∧ mIn rm 1 1000 = 0 ∧ mRaiU M np nbx r bt (fun b => sB r b np) cx bv rm 0 0 = 3 ∧ Rel C (mRaiU M np nbx r bt (fun b => sB r b np) cx bv rm)) ∨
    (∃ b, b < nbx ∧ bv = nI b ∧ ¬ mIn rm 1 1000 = 0 ∧ C (1100 + b) 0 = nI (cx b) ∧ cx b < 4 ∧ mRaiU M np nbx r bt (fun b => sB r b np) cx bv rm 0 0 = 0 ∧ mRaiR M nbx cx bv rm = fRai C (cx b) rm ∧ Rel C (mRaiU M np nbx r bt (fun b => sB r b np) cx bv rm)) := by
  have h4 := H.d.nc4
  rw [hk.c3, u_plc (by omega)]
  by_cases a : mIn bv 0 (nI nbx - 1) = 0
  · have e : mRaiC M nbx bv rm = 2 := by unfold mRaiC; rw [if_neg h24, if_pos a]
    have eU : mRaiU M np nbx r bt (fun b => sB r b np) cx bv rm = gSt M 0 0 2 := by unfold mRaiU; rw [e]; rw [if_neg (by decide)]
    rw [eU]
    exact Or.inl ⟨a, by simp [gS], ⟨nc, np, nb, bt, bs, kc, H.m0 2⟩⟩
  · by_cases a2 : mIn rm 1 1000 = 0
    · have e : mRaiC M nbx bv rm = 3 := by unfold mRaiC; rw [if_neg h24, if_neg a, if_pos a2]
      have eU : mRaiU M np nbx r bt (fun b => sB r b np) cx bv rm = gSt M 0 0 3 := by unfold mRaiU; rw [e]; rw [if_neg (by decide)]
      rw [eU]
      exact Or.inr (Or.inl ⟨a, a2, by simp [gS], ⟨nc, np, nb, bt, bs, kc, H.m0 3⟩⟩)
    · obtain ⟨b, hb, rfl⟩ := mIn_nat (by omega) a
      have e : mRaiC M nbx (nI b) rm = 0 := by unfold mRaiC; rw [if_neg h24, if_neg a, if_neg a2]
      have ec : (nI b).toNatClampNeg = b := nI_clamp (by omega)
      have eU : mRaiU M np nbx r bt (fun b => sB r b np) cx (nI b) rm = mBoxU (gSt M 0 0 0) r bt (fun b => sB r b np) cx np b := by unfold mRaiU; rw [if_pos e, ec]
      rw [eU]
      obtain ⟨X, L, hL, e1, e2, hp, hrow⟩ := q_pk H hk hb
      have hc := hk.cc b hb
      refine Or.inr (Or.inr ⟨b, hb, rfl, a2, hrow.b0, by omega, (q_bu H r _ cx b).2, ?_, ⟨nc, np, nb, bt, bs, kc, (q_bu H r _ cx b).1⟩⟩)
      unfold mRaiR mRaiV fRai
      rw [if_pos e, ec, H.d.cd _ hc, H.d.ch _ hc]
theorem fPal_s {own own' : Nat → Int32} (lm : Int32) : ∀ n, n ≤ 100 → (∀ b, b < n → own b = own' b) → fPal own lm n = mPal own' lm n ∧ ∃ k : Nat, k ≤ n ∧ (mPal own' lm n).1 = nI k
  | 0, _, _ => ⟨rfl, 0, Nat.le_refl _, rfl⟩
  | n + 1, hn, h => by
    obtain ⟨i1, k, hk, i2⟩ := fPal_s lm n (by omega) (fun b hb => h b (by omega))
    have e := h n (by omega)
    unfold fPal mPal
    rw [i1, i2, e]
    by_cases z : k = 0
    · subst z
      rw [if_pos (show nI 0 = 0 from rfl), if_pos (show nI 0 ≤ 0 by decide), Int32.zero_add]
      exact ⟨rfl, 1, by omega, rfl⟩
    · rw [if_neg (nI_ne0 (by omega) (by omega)), if_neg (nI_nle (by omega) (by omega)), Int32.zero_add]
      by_cases y : (mPal own' lm n).2 + own' n ≤ lm
      · rw [if_pos y, if_neg (by rw [Int32.lt_iff_toInt_lt]; rw [Int32.le_iff_toInt_le] at y; omega)]
        exact ⟨by rw [Int32.add_zero], k, by omega, Int32.add_zero _⟩
      · rw [if_neg y, if_pos (by rw [Int32.lt_iff_toInt_lt]; rw [Int32.le_iff_toInt_le] at y; omega)]
        exact ⟨rfl, k + 1, by omega, nI_1 k⟩
theorem q_pallets (H : rAll C M nc np nb bt bs kc) {nbx : Nat} {r cx : Nat → Nat} (h24 : ¬ M 24 0 = 0) (hn : nbx ≤ 8) (hk : rOk C M nc np bt nbx r cx) (lm : Int32) :
    (mIn lm 1 1000000 = 0 ∧ mPalU M np r lm 0 0 = 2 ∧ Rel C (mPalU M np r lm)) ∨
    (¬ mIn lm 1 1000000 = 0 ∧ mPalU M np r lm 0 0 = 0 ∧ mPalR M np nbx r (fun b => sB r b np) lm = (fPal (fun b => C (1100 + b) 2) lm nbx).1 ∧ Rel C (mPalU M np r lm)) := by
  by_cases a : mIn lm 1 1000000 = 0
  · have e : mPalC M lm = 2 := by unfold mPalC; rw [if_neg h24, if_pos a]
    have eU : mPalU M np r lm = gSt M 0 0 2 := by unfold mPalU; rw [e]; rw [if_neg (by decide)]
    rw [eU]
    exact Or.inl ⟨a, by simp [gS], ⟨nc, np, nb, bt, bs, kc, H.m0 2⟩⟩
  · have e : mPalC M lm = 0 := by unfold mPalC; rw [if_neg h24, if_neg a]
    have eU : mPalU M np r lm = (mSets (gSt M 0 0 0) r np).1 := by unfold mPalU; rw [if_pos e]
    rw [eU]
    refine Or.inr ⟨a, (q_st H r).2, ?_, ⟨nc, np, nb, bt, bs, kc, (q_st H r).1⟩⟩
    unfold mPalR
    rw [if_pos e, (fPal_s (own' := fun b => mGrams (mSets (gSt M 0 0 0) r np).1 (nI (sB r b np)) np) lm nbx (by omega) (fun b hb => ?_)).1]
    obtain ⟨X, L, hL, e1, e2, hp, hrow⟩ := q_pk H hk hb
    show C (1100 + b) 2 = _
    rw [hrow.b2, (q_st H r).1.d.grams]
/-- a start: every picture that the two constructors leave is related -/
theorem q_start {C M : Nat → Nat → Int32} (c : ∀ i n, i ≠ 200 → i ≠ 503 → C i n = 0) (m : ∀ i n, i ≠ 1 → M i n = 0) (h1 : C 200 0 = M 1 0) (h2 : C 503 0 = -1) : Rel C M :=
  ⟨0, 0, 0, fun _ => 0, fun _ => 0, fun _ => 0, ⟨by omega, by omega, c _ _ (by omega) (by omega), m _ _ (by omega), fun _ h => by omega, fun _ h => by omega, fun _ h => by omega, fun _ h => by omega, fun _ h => by omega, fun _ h => by omega, c _ _ (by omega) (by omega), m _ _ (by omega), fun _ h => by omega, fun _ h => by omega, fun _ h => by omega, fun _ h => by omega, fun _ h => by omega, fun _ h => by omega, fun _ h => by omega, fun _ h => by omega, fun _ _ => c _ _ (by omega) (by omega), h1, fun _ h => by omega, oOrd.zero _ _, fun _ h => by omega, oOrd.zero _ _⟩, ⟨by omega, c _ _ (by omega) (by omega), m _ _ (by omega), fun _ => Nat.zero_le _, fun _ _ => c _ _ (by omega) (by omega), fun _ _ => m _ _ (by omega), fun _ _ _ h => absurd h (Nat.not_lt_zero _), fun _ _ _ h => absurd h (Nat.not_lt_zero _), fun _ _ _ h => absurd h (Nat.not_lt_zero _), fun _ _ => c _ _ (by omega) (by omega), fun _ _ => c _ _ (by omega) (by omega)⟩, fun _ _ => c _ _ (by omega) (by omega), fun _ => Or.inl (c _ _ (by omega) (by omega)), fun _ => Or.inl (m _ _ (by omega)), Or.inl ⟨c _ _ (by omega) (by omega), h2, m _ _ (by omega)⟩⟩
end OPS
end
