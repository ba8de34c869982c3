section
/-! every call: helper and reference over related states -/
set_option maxHeartbeats 2000000 in
theorem L_carton (l : Launch) (D : va_G) (t : Nat → ClassId) (a : Nat → Nat) (ao : Nat) (b : Nat → Nat) {C M : Nat → Nat → Int32} (f : Nat → Int64) (p0 p1 p2 p3 p4 : Int32) (hl0 : l.stackTraces = false) (hR : Rel C M) :
    ∃ (nH : Nat) (k : Int32) (C' : Nat → Nat → Int32) (f' : Nat → Int64) (r : Int32) (M' : Nat → Nat → Int32), nH ≤ 20 ∧ gMq l D t y_Lw_carton b_Lw_carton 8 [(0, 16, 19, 13), (0, 16, 23, 15)] nH [.ref (a 699), .int p0, .int p1, .int p2, .int p3, .int p4, .ref ao] (wLw t a ao C f) (fun u : (Nat → Nat → Int32) × (Nat → Int64) => wLw t a ao u.1 u.2) (fun k' u => k' = k ∧ u = (C', f')) ∧
      gMi l D t y_Md_carton b_Md_carton 7 (some .int) 2 [.ref (b 0), .int p0, .int p1, .int p2, .int p3, .int p4] (wMd t b M) (wMd t b) (fun r' u => r' = r ∧ u = M') ∧ M' 0 0 = k ∧ (k = 0 → f' 0 = r.toInt64) ∧ Rel C' M' := by
  obtain ⟨nc, np, nb, bt, bs, kc, H⟩ := hR
  have hm := c_Md_carton l D t b M p0 p1 p2 p3 p4 nc H.d.mN H.d.nc4
  rcases q_carton H p0 p1 p2 p3 p4 with ⟨h1, h2, h3⟩ | ⟨h1, h2, h3, h4, h5, h6⟩ | ⟨h1, h2, h3, h4, h5, h6, h7⟩
  · exact ⟨13, 1, C, f, _, _, by omega, x_Lw_carton_iae l D t a ao C f p0 p1 p2 p3 p4 12 (x_Fb_carton_iae l D t a C p0 p1 p2 p3 p4 h1 hl0), hm, h2, fun z => absurd z (by decide), h3⟩
  · exact ⟨13, 2, C, f, _, _, by omega, x_Lw_carton_ise l D t a ao C f p0 p1 p2 p3 p4 12 (x_Fb_carton_ise l D t a C p0 p1 p2 p3 p4 (by rw [H.d.cN, h4]) h1 h2 h3 hl0), hm, h5, fun z => absurd z (by decide), h6⟩
  · exact ⟨3, 0, _, _, _, _, by omega, r_Lw_carton l D t a ao C f p0 p1 p2 p3 p4 2 _ _ (c_Fb_carton l D t a C p0 p1 p2 p3 p4 nc H.d.cN h4 h1 h2 h3), hm, h5, fun _ => by rw [h6]; rfl, h7⟩
set_option maxHeartbeats 2000000 in
theorem L_part (l : Launch) (D : va_G) (t : Nat → ClassId) (a : Nat → Nat) (ao : Nat) (b : Nat → Nat) {C M : Nat → Nat → Int32} (f : Nat → Int64) (p0 p1 p2 p3 p4 : Int32) (hl0 : l.stackTraces = false) (hR : Rel C M) :
    ∃ (nH : Nat) (k : Int32) (C' : Nat → Nat → Int32) (f' : Nat → Int64) (r : Int32) (M' : Nat → Nat → Int32), nH ≤ 20 ∧ gMq l D t y_Lw_part b_Lw_part 8 [(0, 16, 19, 13), (0, 16, 23, 15)] nH [.ref (a 699), .int p0, .int p1, .int p2, .int p3, .int p4, .ref ao] (wLw t a ao C f) (fun u : (Nat → Nat → Int32) × (Nat → Int64) => wLw t a ao u.1 u.2) (fun k' u => k' = k ∧ u = (C', f')) ∧
      gMi l D t y_Md_part b_Md_part 7 (some .int) 2 [.ref (b 0), .int p0, .int p1, .int p2, .int p3, .int p4] (wMd t b M) (wMd t b) (fun r' u => r' = r ∧ u = M') ∧ M' 0 0 = k ∧ (k = 0 → f' 0 = r.toInt64) ∧ Rel C' M' := by
  obtain ⟨nc, np, nb, bt, bs, kc, H⟩ := hR
  have hm := c_Md_part l D t b M p0 p1 p2 p3 p4 np H.d.qN H.d.np8
  rcases q_part H p0 p1 p2 p3 p4 with ⟨h1, h2, h3⟩ | ⟨h1, h2, h3, h4, h5, h6⟩ | ⟨h1, h2, h3, h4, h5, h6, h7⟩
  · exact ⟨13, 1, C, f, _, _, by omega, x_Lw_part_iae l D t a ao C f p0 p1 p2 p3 p4 12 (x_Fb_part_iae l D t a C p0 p1 p2 p3 p4 h1 hl0), hm, h2, fun z => absurd z (by decide), h3⟩
  · exact ⟨13, 2, C, f, _, _, by omega, x_Lw_part_ise l D t a ao C f p0 p1 p2 p3 p4 12 (x_Fb_part_ise l D t a C p0 p1 p2 p3 p4 (by rw [H.d.pN, h4]) h1 h2 h3 hl0), hm, h5, fun z => absurd z (by decide), h6⟩
  · exact ⟨3, 0, _, _, _, _, by omega, r_Lw_part l D t a ao C f p0 p1 p2 p3 p4 2 _ _ (c_Fb_part l D t a C p0 p1 p2 p3 p4 np H.d.pN h4 bt bs (fun k hk => ⟨H.d.hb k hk, by have := H.d.ob.lt k hk; omega⟩) (fun k hk => ⟨H.d.hs k hk, by have := H.d.os.lt k hk; omega⟩) h1 h2 h3), hm, h5, fun _ => by rw [h6]; rfl, h7⟩
set_option maxHeartbeats 2000000 in
theorem L_fragile (l : Launch) (D : va_G) (t : Nat → ClassId) (a : Nat → Nat) (ao : Nat) (b : Nat → Nat) {C M : Nat → Nat → Int32} (f : Nat → Int64) (p0 p1 : Int32) (hl0 : l.stackTraces = false) (hon : p1 = 0 ∨ p1 = 1) (hR : Rel C M) :
    ∃ (nH : Nat) (k : Int32) (C' : Nat → Nat → Int32) (f' : Nat → Int64) (r : Int32) (M' : Nat → Nat → Int32), nH ≤ 20 ∧ gMq l D t y_Lw_fragile b_Lw_fragile 5 [(0, 17, 20, 24)] nH [.ref (a 699), .int p0, .int p1, .ref ao] (wLw t a ao C f) (fun u : (Nat → Nat → Int32) × (Nat → Int64) => wLw t a ao u.1 u.2) (fun k' u => k' = k ∧ u = (C', f')) ∧
      gMi l D t y_Md_fragile b_Md_fragile 4 (some .boolean) 1 [.ref (b 0), .int p0, .int p1] (wMd t b M) (wMd t b) (fun r' u => r' = r ∧ u = M') ∧ M' 0 0 = k ∧ (k = 0 → f' 0 = (if r = 0 then 0 else 1 : Int64)) ∧ Rel C' M' := by
  obtain ⟨nc, np, nb, bt, bs, kc, H⟩ := hR
  have hm := c_Md_fragile l D t b M p0 p1 np H.d.qN H.d.np8 hon
  rcases q_fragile H p0 p1 hon with ⟨h1, h2, h3⟩ | ⟨q, hq, rfl, h2, h3, h4⟩
  · exact ⟨13, 1, C, f, _, _, by omega, x_Lw_fragile_iob l D t a ao C f p0 p1 12 (x_Fb_fragile_iob l D t a C p0 p1 h1 hl0), hm, h2, fun z => absurd z (by decide), h3⟩
  · exact ⟨2, 0, _, _, _, _, by omega, r_Lw_fragile l D t a ao C f (nI q) p1 1 _ _ (c_Fb_fragile l D t a C q p1 np H.d.pN H.d.np8 hq hon), hm, h2, fun _ => by rw [h3]; rfl, h4⟩
set_option maxHeartbeats 2000000 in
theorem L_fits (l : Launch) (D : va_G) (t : Nat → ClassId) (a : Nat → Nat) (ao : Nat) (b : Nat → Nat) {C M : Nat → Nat → Int32} (f : Nat → Int64) (p0 p1 : Int32) (hl0 : l.stackTraces = false) (hR : Rel C M) :
    ∃ (nH : Nat) (k : Int32) (C' : Nat → Nat → Int32) (f' : Nat → Int64) (r : Int32) (M' : Nat → Nat → Int32), nH ≤ 20 ∧ gMq l D t y_Lw_fits b_Lw_fits 5 [(0, 17, 20, 24), (0, 17, 24, 13)] nH [.ref (a 699), .int p0, .int p1, .ref ao] (wLw t a ao C f) (fun u : (Nat → Nat → Int32) × (Nat → Int64) => wLw t a ao u.1 u.2) (fun k' u => k' = k ∧ u = (C', f')) ∧
      gMi l D t y_Md_fits b_Md_fits 3 (some .boolean) 2 [.ref (b 0), .int p0, .int p1] (wMd t b M) (wMd t b) (fun r' u => r' = r ∧ u = M') ∧ M' 0 0 = k ∧ (k = 0 → f' 0 = (if r = 0 then 0 else 1 : Int64)) ∧ Rel C' M' := by
  obtain ⟨nc, np, nb, bt, bs, kc, H⟩ := hR
  have hm := c_Md_fits l D t b M p0 p1 nc np bt H.d.mN H.d.nc4 H.d.qN H.d.np8 (fun k hk => ⟨H.d.ob.lt k hk, mBT_o H.d.ob H.d.np8 hk np 0 (by omega) (Nat.zero_le _)⟩)
  rcases q_fits H p0 p1 with ⟨h1, h2, h3⟩ | ⟨h1, h2, h3, h4⟩ | ⟨c, hc, rfl, h2, h3, h4, h5⟩
  · exact ⟨13, 1, C, f, _, _, by omega, x_Lw_fits_iob l D t a ao C f p0 p1 12 (x_Fb_fits_iob l D t a C p0 p1 h1 hl0), hm, h2, fun z => absurd z (by decide), h3⟩
  · exact ⟨13, 2, C, f, _, _, by omega, x_Lw_fits_iae l D t a ao C f p0 p1 12 (x_Fb_fits_iae l D t a C p0 p1 np H.d.pN H.d.np8 h1 h2 hl0), hm, h3, fun z => absurd z (by decide), h4⟩
  · exact ⟨5, 0, _, _, _, _, by omega, r_Lw_fits l D t a ao C f (nI c) p1 4 _ _ (c_Fb_fits l D t a C c nc p1 np H.d.pN H.d.np8 bt (fun k hk => ⟨H.d.hb k hk, by have := H.d.ob.lt k hk; have := H.d.np8; omega⟩) H.d.cN H.d.nc4 hc h2), hm, h3, fun _ => by rw [h4]; rfl, h5⟩
set_option maxHeartbeats 2000000 in
theorem L_at (l : Launch) (D : va_G) (t : Nat → ClassId) (a : Nat → Nat) (ao : Nat) (b : Nat → Nat) {C M : Nat → Nat → Int32} (f : Nat → Int64) (p0 p1 : Int32) (hl0 : l.stackTraces = false) (hR : Rel C M) :
    ∃ (nH : Nat) (k : Int32) (C' : Nat → Nat → Int32) (f' : Nat → Int64) (r : Int32) (M' : Nat → Nat → Int32), nH ≤ 20 ∧ gMq l D t y_Lw_at b_Lw_at 5 [(0, 10, 13, 15), (0, 10, 17, 24)] nH [.ref (a 699), .int p0, .int p1, .ref ao] (wLw t a ao C f) (fun u : (Nat → Nat → Int32) × (Nat → Int64) => wLw t a ao u.1 u.2) (fun k' u => k' = k ∧ u = (C', f')) ∧
      gMi l D t y_Md_at b_Md_at 6 (some .int) 3 [.ref (b 0), .int p0, .int p1] (wMd t b M) (wMd t b) (fun r' u => r' = r ∧ u = M') ∧ M' 0 0 = k ∧ (k = 0 → f' 0 = r.toInt64) ∧ Rel C' M' := by
  obtain ⟨nc, np, nb, bt, bs, kc, H⟩ := hR
  rcases q_sh H with ⟨h1, h2⟩ | ⟨nbx, r, cx, h1, h2, h3, h4, h5⟩
  · have hm := c_Md_at l D t b M p0 p1 bt (fun _ => 0) (fun _ => 0) np 0 (fun _ => 0) (fun _ => 0) (fun _ => 0) H.d.qN H.d.np8 (fun z => absurd h2 z) (fun k hk => ⟨H.d.ob.lt k hk, mBT_o H.d.ob H.d.np8 hk np 0 (by omega) (Nat.zero_le _)⟩) (fun z => absurd h2 z)
    have e : mAtC M np p0 p1 = 1 := by unfold mAtC; rw [if_pos h2]
    have eU : mAtU M np (fun _ => 0) bt (fun _ => 0) (fun _ => 0) p0 p1 = gSt M 0 0 1 := by unfold mAtU; rw [e, if_neg (by decide)]
    rw [eU] at hm
    exact ⟨15, 1, C, f, _, _, by omega, x_Lw_at_ise l D t a ao C f p0 p1 14 (x_Fb_at_ise l D t a C p0 p1 h1 hl0), hm, by simp [gS], fun z => absurd z (by decide), ⟨nc, np, nb, bt, bs, kc, H.m0 1⟩⟩
  · have hm := c_Md_at l D t b M p0 p1 bt (qLf M np bt r cx) (qLp M np bt r cx) np nbx r (fun b => sB r b np) cx H.d.qN H.d.np8 (fun _ => h5) (fun k hk => ⟨H.d.ob.lt k hk, mBT_o H.d.ob H.d.np8 hk np 0 (by omega) (Nat.zero_le _)⟩) (fun _ => q_atok H h4)
    rcases q_at H h2 h4 p0 p1 with ⟨k1, k2, k3⟩ | ⟨q, w, hq, hw, rfl, rfl, k2, k3, k4⟩
    · exact ⟨13, 2, C, f, _, _, by omega, x_Lw_at_iob l D t a ao C f p0 p1 12 (x_Fb_at_iob l D t a C p0 p1 h1 k1 hl0), hm, k2, fun z => absurd z (by decide), k3⟩
    · exact ⟨2, 0, _, _, _, _, by omega, r_Lw_at l D t a ao C f (nI q) (nI w) 1 _ _ (c_Fb_at l D t a C q w h1 np H.d.pN H.d.np8 hq hw), hm, k2, fun _ => by rw [k3]; rfl, k4⟩
set_option maxHeartbeats 2000000 in
theorem L_box (l : Launch) (D : va_G) (t : Nat → ClassId) (a : Nat → Nat) (ao : Nat) (b : Nat → Nat) {C M : Nat → Nat → Int32} (f : Nat → Int64) (p0 p1 : Int32) (hl0 : l.stackTraces = false) (hR : Rel C M) :
    ∃ (nH : Nat) (k : Int32) (C' : Nat → Nat → Int32) (f' : Nat → Int64) (r : Int32) (M' : Nat → Nat → Int32), nH ≤ 20 ∧ gMq l D t y_Lw_box b_Lw_box 5 [(0, 10, 13, 15), (0, 10, 17, 24)] nH [.ref (a 699), .int p0, .int p1, .ref ao] (wLw t a ao C f) (fun u : (Nat → Nat → Int32) × (Nat → Int64) => wLw t a ao u.1 u.2) (fun k' u => k' = k ∧ u = (C', f')) ∧
      gMi l D t y_Md_box b_Md_box 6 (some .int) 3 [.ref (b 0), .int p0, .int p1] (wMd t b M) (wMd t b) (fun r' u => r' = r ∧ u = M') ∧ M' 0 0 = k ∧ (k = 0 → f' 0 = r.toInt64) ∧ Rel C' M' := by
  obtain ⟨nc, np, nb, bt, bs, kc, H⟩ := hR
  rcases q_sh H with ⟨h1, h2⟩ | ⟨nbx, r, cx, h1, h2, h3, h4, h5⟩
  · have hm := c_Md_box l D t b M p0 p1 bt (fun _ => 0) np 0 (fun _ => 0) (fun _ => 0) (fun _ => 0) H.d.qN H.d.np8 (fun z => absurd h2 z) (fun k hk => ⟨H.d.ob.lt k hk, mBT_o H.d.ob H.d.np8 hk np 0 (by omega) (Nat.zero_le _)⟩) (fun z => absurd h2 z)
    have e : mBxC M 0 p0 p1 = 1 := by unfold mBxC; rw [if_pos h2]
    have eU : mBxU M np 0 (fun _ => 0) bt (fun _ => 0) (fun _ => 0) p0 p1 = gSt M 0 0 1 := by unfold mBxU; rw [e, if_neg (by decide)]
    rw [eU] at hm
    exact ⟨15, 1, C, f, _, _, by omega, x_Lw_box_ise l D t a ao C f p0 p1 14 (x_Fb_box_ise l D t a C p0 p1 h1 hl0), hm, by simp [gS], fun z => absurd z (by decide), ⟨nc, np, nb, bt, bs, kc, H.m0 1⟩⟩
  · have hm := c_Md_box l D t b M p0 p1 bt (qL M np bt r cx) np nbx r (fun b => sB r b np) cx H.d.qN H.d.np8 (fun _ => h5) (fun k hk => ⟨H.d.ob.lt k hk, mBT_o H.d.ob H.d.np8 hk np 0 (by omega) (Nat.zero_le _)⟩) (fun _ => q_boxok H h4)
    rcases q_box H h2 h3 h4 p0 p1 with ⟨k1, k2, k3⟩ | ⟨q, w, hq, hw, rfl, rfl, k2, k3, k4⟩
    · exact ⟨13, 2, C, f, _, _, by omega, x_Lw_box_iob l D t a ao C f p0 p1 12 (x_Fb_box_iob l D t a C p0 p1 h1 k1 hl0), hm, k2, fun z => absurd z (by decide), k3⟩
    · exact ⟨2, 0, _, _, _, _, by omega, r_Lw_box l D t a ao C f (nI q) (nI w) 1 _ _ (c_Fb_box l D t a C q w nbx h1 h4.c3 h3 hq hw), hm, k2, fun _ => by rw [k3]; rfl, k4⟩
set_option maxHeartbeats 2000000 in
theorem L_cost (l : Launch) (D : va_G) (t : Nat → ClassId) (a : Nat → Nat) (ao : Nat) (b : Nat → Nat) {C M : Nat → Nat → Int32} (f : Nat → Int64) (hl0 : l.stackTraces = false) (hR : Rel C M) :
    ∃ (nH : Nat) (k : Int32) (C' : Nat → Nat → Int32) (f' : Nat → Int64) (r : Int32) (M' : Nat → Nat → Int32), nH ≤ 20 ∧ gMq l D t y_Lw_cost b_Lw_cost 3 [(0, 8, 11, 15)] nH [.ref (a 699), .ref ao] (wLw t a ao C f) (fun u : (Nat → Nat → Int32) × (Nat → Int64) => wLw t a ao u.1 u.2) (fun k' u => k' = k ∧ u = (C', f')) ∧
      gMi l D t y_Md_cost b_Md_cost 1 (some .int) 1 [.ref (b 0)] (wMd t b M) (wMd t b) (fun r' u => r' = r ∧ u = M') ∧ M' 0 0 = k ∧ (k = 0 → f' 0 = r.toInt64) ∧ Rel C' M' := by
  obtain ⟨nc, np, nb, bt, bs, kc, H⟩ := hR
  rcases q_sh H with ⟨h1, h2⟩ | ⟨nbx, r, cx, h1, h2, h3, h4, h5⟩
  · have hm := c_Md_cost l D t b M np 0 (fun _ => 0) (fun _ => 0) (fun _ => 0) H.d.qN H.d.np8 (fun z => absurd h2 z)
    have eU : mCostU M np (fun _ => 0) = gSt M 0 0 1 := by unfold mCostU; rw [if_pos h2]
    rw [eU] at hm
    exact ⟨15, 1, C, f, _, _, by omega, x_Lw_cost_ise l D t a ao C f  14 (x_Fb_cost_ise l D t a C h1 hl0), hm, by simp [gS], fun z => absurd z (by decide), ⟨nc, np, nb, bt, bs, kc, H.m0 1⟩⟩
  · have hm := c_Md_cost l D t b M np nbx r (fun b => sB r b np) cx H.d.qN H.d.np8 (fun _ => h5)
    obtain ⟨k1, k2, k3⟩ := q_cost H h2 h4
    exact ⟨2, 0, _, _, _, _, by omega, r_Lw_cost l D t a ao C f 1 _ _ (c_Fb_cost l D t a C h1), hm, k2, fun _ => by rw [k1]; rfl, k3⟩
set_option maxHeartbeats 2000000 in
theorem L_manual (l : Launch) (D : va_G) (t : Nat → ClassId) (a : Nat → Nat) (ao : Nat) (b : Nat → Nat) {C M : Nat → Nat → Int32} (f : Nat → Int64) (p0 : Int32) (hl0 : l.stackTraces = false) (hR : Rel C M) :
    ∃ (nH : Nat) (k : Int32) (C' : Nat → Nat → Int32) (f' : Nat → Int64) (r : Int32) (M' : Nat → Nat → Int32), nH ≤ 20 ∧ gMq l D t y_Lw_manual b_Lw_manual 4 [(0, 9, 12, 24)] nH [.ref (a 699), .int p0, .ref ao] (wLw t a ao C f) (fun u : (Nat → Nat → Int32) × (Nat → Int64) => wLw t a ao u.1 u.2) (fun k' u => k' = k ∧ u = (C', f')) ∧
      gMi l D t y_Md_manual b_Md_manual 5 (some .int) 1 [.ref (b 0), .int p0] (wMd t b M) (wMd t b) (fun r' u => r' = r ∧ u = M') ∧ M' 0 0 = k ∧ (k = 0 → f' 0 = r.toInt64) ∧ Rel C' M' := by
  obtain ⟨nc, np, nb, bt, bs, kc, H⟩ := hR
  have hm := c_Md_manual l D t b M p0 np H.d.qN H.d.np8
  rcases q_manual H p0 with ⟨h1, h2⟩ | ⟨k, hk, rfl, h2, h3⟩
  · rw [h2] at hm
    exact ⟨13, 1, C, f, _, _, by omega, x_Lw_manual_iob l D t a ao C f p0 12 (x_Fb_manual_iob l D t a C p0 h1 hl0), hm, by simp [gS], fun z => absurd z (by decide), ⟨nc, np, nb, bt, bs, kc, H.m0 1⟩⟩
  · rw [h2] at hm
    exact ⟨2, 0, _, _, _, _, by omega, r_Lw_manual l D t a ao C f (nI k) 1 _ _ (c_Fb_manual l D t a C k np H.d.pN H.d.np8 hk), hm, by simp [gS], fun _ => by rw [h3]; rfl, ⟨nc, np, nb, bt, bs, kc, H.m0 0⟩⟩
set_option maxHeartbeats 2000000 in
theorem L_bag (l : Launch) (D : va_G) (t : Nat → ClassId) (a : Nat → Nat) (ao : Nat) (b : Nat → Nat) {C M : Nat → Nat → Int32} (f : Nat → Int64) (hl0 : l.stackTraces = false) (hR : Rel C M) :
    ∃ (nH : Nat) (k : Int32) (C' : Nat → Nat → Int32) (f' : Nat → Int64) (r : Int32) (M' : Nat → Nat → Int32), nH ≤ 20 ∧ gMq l D t y_Lw_bag b_Lw_bag 3 [(0, 8, 11, 15)] nH [.ref (a 699), .ref ao] (wLw t a ao C f) (fun u : (Nat → Nat → Int32) × (Nat → Int64) => wLw t a ao u.1 u.2) (fun k' u => k' = k ∧ u = (C', f')) ∧
      gMi l D t y_Md_bag b_Md_bag 1 (some .int) 0 [.ref (b 0)] (wMd t b M) (wMd t b) (fun r' u => r' = r ∧ u = M') ∧ M' 0 0 = k ∧ (k = 0 → f' 0 = r.toInt64) ∧ Rel C' M' := by
  obtain ⟨nc, np, nb, bt, bs, kc, H⟩ := hR
  have hm := c_Md_bag l D t b M nb H.b.mB H.b.nb4
  rcases q_bag H with ⟨h1, h2, h3⟩ | ⟨h1, h2, h3, h4⟩
  · exact ⟨13, 1, C, f, _, _, by omega, x_Lw_bag_ise l D t a ao C f  12 (x_Fb_bag_ise l D t a C (by rw [H.b.cB, h1]) hl0), hm, h2, fun z => absurd z (by decide), h3⟩
  · exact ⟨2, 0, _, _, _, _, by omega, r_Lw_bag l D t a ao C f 1 _ _ (c_Fb_bag l D t a C nb H.b.cB h1), hm, h2, fun _ => by rw [h3]; rfl, h4⟩
set_option maxHeartbeats 2000000 in
theorem L_into (l : Launch) (D : va_G) (t : Nat → ClassId) (a : Nat → Nat) (ao : Nat) (b : Nat → Nat) {C M : Nat → Nat → Int32} (f : Nat → Int64) (p0 p1 p2 p3 : Int32) (hl0 : l.stackTraces = false) (hR : Rel C M) :
    ∃ (nH : Nat) (k : Int32) (C' : Nat → Nat → Int32) (f' : Nat → Int64) (r : Int32) (M' : Nat → Nat → Int32), nH ≤ 20 ∧ gMq l D t y_Lw_into b_Lw_into 7 [(0, 14, 17, 24), (0, 14, 21, 13), (0, 14, 25, 15)] nH [.ref (a 699), .int p0, .int p1, .int p2, .int p3, .ref ao] (wLw t a ao C f) (fun u : (Nat → Nat → Int32) × (Nat → Int64) => wLw t a ao u.1 u.2) (fun k' u => k' = k ∧ u = (C', f')) ∧
      gMi l D t y_Md_into b_Md_into 7 (some .int) 1 [.ref (b 0), .int p0, .int p1, .int p2, .int p3] (wMd t b M) (wMd t b) (fun r' u => r' = r ∧ u = M') ∧ M' 0 0 = k ∧ (k = 0 → f' 0 = r.toInt64) ∧ Rel C' M' := by
  obtain ⟨nc, np, nb, bt, bs, kc, H⟩ := hR
  have hm := c_Md_into l D t b M p0 p1 p2 p3 nb kc H.b.mB H.b.nb4 (fun b hb => ⟨H.b.km b (by have := H.b.nb4; omega), H.b.k6 b⟩)
  have hb4 := H.b.nb4
  rcases q_into H p0 p1 p2 p3 with ⟨h1, h2, h3⟩ | ⟨h0, h1, h2, h3⟩ | ⟨c, hc, rfl, h1, h2, h3, h4, h5, h6, h7⟩ | ⟨c, hc, rfl, h2, h3, h4, h5, h6, h7, h8⟩
  · exact ⟨13, 1, C, f, _, _, by omega, x_Lw_into_iob l D t a ao C f p0 p1 p2 p3 12 (x_Fb_into_iob l D t a C p0 p1 p2 p3 h1 hl0), hm, h2, fun z => absurd z (by decide), h3⟩
  · exact ⟨13, 2, C, f, _, _, by omega, x_Lw_into_iae l D t a ao C f p0 p1 p2 p3 12 (x_Fb_into_iae l D t a C p0 p1 p2 p3 h0 h1 hl0), hm, h2, fun z => absurd z (by decide), h3⟩
  · exact ⟨13, 3, C, f, _, _, by omega, x_Lw_into_ise l D t a ao C f (nI c) p1 p2 p3 12 (x_Fb_into_ise l D t a C c p1 p2 p3 (by omega) h1 h2 h3 h4 (by rw [H.b.ck c (by omega), h5]) hl0), hm, h6, fun z => absurd z (by decide), h7⟩
  · exact ⟨2, 0, _, _, _, _, by omega, r_Lw_into l D t a ao C f (nI c) p1 p2 p3 1 _ _ (c_Fb_into l D t a C c nb (kc c) p1 p2 p3 H.b.cB H.b.nb4 hc (H.b.ck c (by omega)) h5 h2 h3 h4), hm, h6, fun _ => by rw [h7]; rfl, h8⟩
set_option maxHeartbeats 2000000 in
theorem L_counted (l : Launch) (D : va_G) (t : Nat → ClassId) (a : Nat → Nat) (ao : Nat) (b : Nat → Nat) {C M : Nat → Nat → Int32} (f : Nat → Int64) (p0 p1 : Int32) (hl0 : l.stackTraces = false) (hR : Rel C M) :
    ∃ (nH : Nat) (k : Int32) (C' : Nat → Nat → Int32) (f' : Nat → Int64) (r : Int32) (M' : Nat → Nat → Int32), nH ≤ 20 ∧ gMq l D t y_Lw_counted b_Lw_counted 5 [(0, 10, 13, 24), (0, 10, 17, 13)] nH [.ref (a 699), .int p0, .int p1, .ref ao] (wLw t a ao C f) (fun u : (Nat → Nat → Int32) × (Nat → Int64) => wLw t a ao u.1 u.2) (fun k' u => k' = k ∧ u = (C', f')) ∧
      gMi l D t y_Md_counted b_Md_counted 7 (some .int) 1 [.ref (b 0), .int p0, .int p1] (wMd t b M) (wMd t b) (fun r' u => r' = r ∧ u = M') ∧ M' 0 0 = k ∧ (k = 0 → f' 0 = r.toInt64) ∧ Rel C' M' := by
  obtain ⟨nc, np, nb, bt, bs, kc, H⟩ := hR
  have hm := c_Md_counted l D t b M p0 p1 nb kc H.b.mB H.b.nb4 (fun b hb => ⟨H.b.km b (by have := H.b.nb4; omega), H.b.k6 b⟩)
  have hb4 := H.b.nb4
  rcases q_counted H p0 p1 with ⟨h1, h2⟩ | ⟨h0, h1, h2⟩ | ⟨c, hc, rfl, h1, h2, h3⟩
  · rw [h2] at hm
    exact ⟨13, 1, C, f, _, _, by omega, x_Lw_counted_iob l D t a ao C f p0 p1 12 (x_Fb_counted_iob l D t a C p0 p1 h1 hl0), hm, by simp [gS], fun z => absurd z (by decide), ⟨nc, np, nb, bt, bs, kc, H.m0 1⟩⟩
  · rw [h2] at hm
    exact ⟨13, 2, C, f, _, _, by omega, x_Lw_counted_iae l D t a ao C f p0 p1 12 (x_Fb_counted_iae l D t a C p0 p1 h0 h1 hl0), hm, by simp [gS], fun z => absurd z (by decide), ⟨nc, np, nb, bt, bs, kc, H.m0 2⟩⟩
  · rw [h2] at hm
    exact ⟨4, 0, _, _, _, _, by omega, r_Lw_counted l D t a ao C f (nI c) p1 3 _ _ (c_Fb_counted l D t a C c nb (kc c) p1 H.b.cB H.b.nb4 hc (H.b.ck c (by omega)) (H.b.k6 c) h1), hm, by simp [gS], fun _ => by rw [h3]; rfl, ⟨nc, np, nb, bt, bs, kc, H.m0 0⟩⟩
set_option maxHeartbeats 2000000 in
theorem L_raised (l : Launch) (D : va_G) (t : Nat → ClassId) (a : Nat → Nat) (ao : Nat) (b : Nat → Nat) {C M : Nat → Nat → Int32} (f : Nat → Int64) (p0 p1 : Int32) (hl0 : l.stackTraces = false) (hR : Rel C M) :
    ∃ (nH : Nat) (k : Int32) (C' : Nat → Nat → Int32) (f' : Nat → Int64) (r : Int32) (M' : Nat → Nat → Int32), nH ≤ 20 ∧ gMq l D t y_Lw_raised b_Lw_raised 5 [(0, 17, 20, 15), (0, 17, 24, 24), (0, 17, 28, 13)] nH [.ref (a 699), .int p0, .int p1, .ref ao] (wLw t a ao C f) (fun u : (Nat → Nat → Int32) × (Nat → Int64) => wLw t a ao u.1 u.2) (fun k' u => k' = k ∧ u = (C', f')) ∧
      gMi l D t y_Md_raised b_Md_raised 4 (some .boolean) 3 [.ref (b 0), .int p0, .int p1] (wMd t b M) (wMd t b) (fun r' u => r' = r ∧ u = M') ∧ M' 0 0 = k ∧ (k = 0 → f' 0 = (if r = 0 then 0 else 1 : Int64)) ∧ Rel C' M' := by
  obtain ⟨nc, np, nb, bt, bs, kc, H⟩ := hR
  rcases q_sh H with ⟨h1, h2⟩ | ⟨nbx, r, cx, h1, h2, h3, h4, h5⟩
  · have hm := c_Md_raised l D t b M p0 p1 bt np 0 (fun _ => 0) (fun _ => 0) (fun _ => 0) H.d.qN H.d.np8 (fun z => absurd h2 z) (fun k hk => ⟨H.d.ob.lt k hk, mBT_o H.d.ob H.d.np8 hk np 0 (by omega) (Nat.zero_le _)⟩)
    have e : mRaiC M 0 p0 p1 = 1 := by unfold mRaiC; rw [if_pos h2]
    have eU : mRaiU M np 0 (fun _ => 0) bt (fun _ => 0) (fun _ => 0) p0 p1 = gSt M 0 0 1 := by unfold mRaiU; rw [e, if_neg (by decide)]
    rw [eU] at hm
    exact ⟨15, 1, C, f, _, _, by omega, x_Lw_raised_ise l D t a ao C f p0 p1 14 (x_Fb_raised_ise l D t a C p0 p1 h1 hl0), hm, by simp [gS], fun z => absurd z (by decide), ⟨nc, np, nb, bt, bs, kc, H.m0 1⟩⟩
  · have hm := c_Md_raised l D t b M p0 p1 bt np nbx r (fun b => sB r b np) cx H.d.qN H.d.np8 (fun _ => h5) (fun k hk => ⟨H.d.ob.lt k hk, mBT_o H.d.ob H.d.np8 hk np 0 (by omega) (Nat.zero_le _)⟩)
    rcases q_raised H h2 h3 h4 p0 p1 with ⟨k1, k2, k3⟩ | ⟨k0, k1, k2, k3⟩ | ⟨q, hq, rfl, k1, k2, k3, k4, k5, k6⟩
    · exact ⟨13, 2, C, f, _, _, by omega, x_Lw_raised_iob l D t a ao C f p0 p1 12 (x_Fb_raised_iob l D t a C p0 p1 h1 k1 hl0), hm, k2, fun z => absurd z (by decide), k3⟩
    · exact ⟨13, 3, C, f, _, _, by omega, x_Lw_raised_iae l D t a ao C f p0 p1 12 (x_Fb_raised_iae l D t a C p0 p1 h1 k0 k1 hl0), hm, k2, fun z => absurd z (by decide), k3⟩
    · exact ⟨2, 0, _, _, _, _, by omega, r_Lw_raised l D t a ao C f (nI q) p1 1 _ _ (c_Fb_raised l D t a C q nbx (cx q) p1 h1 h4.c3 h3 hq k1 k2 k3), hm, k4, fun _ => by rw [k5]; rfl, k6⟩
set_option maxHeartbeats 2000000 in
theorem L_pallets (l : Launch) (D : va_G) (t : Nat → ClassId) (a : Nat → Nat) (ao : Nat) (b : Nat → Nat) {C M : Nat → Nat → Int32} (f : Nat → Int64) (p0 : Int32) (hl0 : l.stackTraces = false) (hR : Rel C M) :
    ∃ (nH : Nat) (k : Int32) (C' : Nat → Nat → Int32) (f' : Nat → Int64) (r : Int32) (M' : Nat → Nat → Int32), nH ≤ 20 ∧ gMq l D t y_Lw_pallets b_Lw_pallets 4 [(0, 9, 12, 15), (0, 9, 15, 13)] nH [.ref (a 699), .int p0, .ref ao] (wLw t a ao C f) (fun u : (Nat → Nat → Int32) × (Nat → Int64) => wLw t a ao u.1 u.2) (fun k' u => k' = k ∧ u = (C', f')) ∧
      gMi l D t y_Md_pallets b_Md_pallets 8 (some .int) 2 [.ref (b 0), .int p0] (wMd t b M) (wMd t b) (fun r' u => r' = r ∧ u = M') ∧ M' 0 0 = k ∧ (k = 0 → f' 0 = r.toInt64) ∧ Rel C' M' := by
  obtain ⟨nc, np, nb, bt, bs, kc, H⟩ := hR
  rcases q_sh H with ⟨h1, h2⟩ | ⟨nbx, r, cx, h1, h2, h3, h4, h5⟩
  · have hm := c_Md_pallets l D t b M p0 np 0 (fun _ => 0) (fun _ => 0) (fun _ => 0) H.d.qN H.d.np8 (fun z => absurd h2 z)
    have e : mPalC M p0 = 1 := by unfold mPalC; rw [if_pos h2]
    have eU : mPalU M np (fun _ => 0) p0 = gSt M 0 0 1 := by unfold mPalU; rw [e, if_neg (by decide)]
    rw [eU] at hm
    exact ⟨15, 1, C, f, _, _, by omega, x_Lw_pallets_ise l D t a ao C f p0 14 (x_Fb_pallets_ise l D t a C p0 h1 hl0), hm, by simp [gS], fun z => absurd z (by decide), ⟨nc, np, nb, bt, bs, kc, H.m0 1⟩⟩
  · have hm := c_Md_pallets l D t b M p0 np nbx r (fun b => sB r b np) cx H.d.qN H.d.np8 (fun _ => h5)
    rcases q_pallets H h2 h3 h4 p0 with ⟨k1, k2, k3⟩ | ⟨k1, k2, k3, k4⟩
    · exact ⟨13, 2, C, f, _, _, by omega, x_Lw_pallets_iae l D t a ao C f p0 12 (x_Fb_pallets_iae l D t a C p0 h1 k1 hl0), hm, k2, fun z => absurd z (by decide), k3⟩
    · exact ⟨2, 0, _, _, _, _, by omega, r_Lw_pallets l D t a ao C f p0 1 _ _ (c_Fb_pallets l D t a C p0 nbx h1 h4.c3 h3 k1), hm, k2, fun _ => by rw [k3]; rfl, k4⟩
set_option maxHeartbeats 2000000 in
theorem L_run (l : Launch) (D : va_G) (t : Nat → ClassId) (a : Nat → Nat) (b : Nat → Nat) {C M : Nat → Nat → Int32} (hR : Rel C M) :
    ∃ (C' : Nat → Nat → Int32) (r : Int32) (M' : Nat → Nat → Int32), gMi l D t y_Fb_run b_Fb_run 1 (some .int) 17 [.ref (a 699)] (wFb t a C) (wFb t a) (fun r' u => r' = r ∧ u = C') ∧
      gMi l D t y_Md_run b_Md_run 6 (some .int) 3 [.ref (b 0)] (wMd t b M) (wMd t b) (fun r' u => r' = r ∧ u = M') ∧ Rel C' M' := by
  obtain ⟨nc, np, nb, bt, bs, kc, H⟩ := hR
  obtain ⟨sx, cx, nbx, NI, h1, h2, h3, h4⟩ := rRunAll H
  have h8 := H.d.np8
  have hp : 0 < 2 ^ np := Nat.pow_pos (by decide)
  have h28 := p28 h8
  have hm := c_Md_run l D t b M nc np (2 ^ np) NI bt H.d.mN H.d.nc4 H.d.qN H.d.np8 (u_shl np h8) hp h28 (fun k hk => ⟨H.d.ob.lt k hk, mBT_o H.d.ob H.d.np8 hk np 0 (by omega) (Nat.zero_le _)⟩) h2
  have hc := c_Fb_run l D t a C np H.d.pN h8 bt (fun k hk => ⟨H.d.hb k hk, by have := H.d.ob.lt k hk; have := H.d.np8; omega⟩) H.d.ob.su nc (2 ^ np - 1) nbx sx cx H.d.cN H.d.nc4 (by rw [u_shl np h8, Nat.sub_add_cancel hp]) (by omega) (fun b hb => ⟨0, by decide, H.s b hb⟩) h1
  rw [h3] at hm
  exact ⟨_, _, _, hc, hm, nc, np, nb, bt, bs, kc, h4⟩
end
