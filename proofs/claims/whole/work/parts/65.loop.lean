section
theorem u_and15 (x : Int32) : ∃ k : Nat, k < 16 ∧ x &&& 15 = nI k := by
  refine ⟨(x &&& 15).toBitVec.toNat, ?_, ?_⟩
  · rw [Int32.toBitVec_and, BitVec.toNat_and]
    exact Nat.lt_of_le_of_lt Nat.and_le_right (by decide)
  · unfold nI
    exact (Int32.toBitVec_inj.mp (by rw [Int32.toBitVec_ofNat', BitVec.ofNat_toNat, BitVec.setWidth_eq])).symm
theorem u_lim {L i : Nat} (hL : L ≤ 3073) (hi : i ≤ 4000) (h : ¬ Int32.ofNat L - 6 < nI i) : i + 6 ≤ L := by
  rw [Int32.lt_iff_toInt_lt, Int32.toInt_sub, nI_toInt (by omega)] at h
  have e1 : (Int32.ofNat L).toInt = (L : Int) := nI_toInt (n := L) (by omega)
  have e2 : (6 : Int32).toInt = 6 := rfl
  rw [e1, e2] at h
  rw [Int.bmod_def] at h
  omega
set_option maxHeartbeats 4000000 in
set_option maxRecDepth 100000 in
theorem law_loop {p : Program} {e : Env} {s : State} {m : MethodId} {below : List Frame} {meth : Method} {c : Code} (l : Launch) (hl0 : l.stackTraces = false) {b L : Nat} {xs : Nat → Int32} (hL : L ≤ 3073) (C0 : lw_At p s m meth c b L xs) {D : va_G} {t : Nat → ClassId} (hK : gK D t s) (hxo : xOK (lwA s) s s.heap) (hno : xNo s) {a : Nat → Nat} {ao : Nat} {bm : Nat → Nat} {c0 s0 : Nat} (hc0 : c0 + 513 ≤ 619262) (hs0 : s0 + 6 * 513 ≤ 7238284) : ∀ (n j : Nat), j + n = 513 → j ≤ 512 → ∀ (C M : Nat → Nat → Int32) (f : Nat → Int64) (H : Heap) (locs : List Loc) (ls : Array Slot), Rel C M → va_P D gCl (wLw t a ao C f ++ wMd t bm M) H → va_D (lwA s) (wLw t a ao C f ++ wMd t bm M) → va_S (lwA s) s.heap H locs → lv_has ls 7 [(0, .ref b), (1, .ref (a 699)), (2, .ref (bm 0)), (3, .ref ao), (4, .int (nI (1 + 6 * j)))] → W p l e room_1 s m #[Value.ref b] below meth c H locs (c0 + j) (s0 + 6 * j) (lw_Z below #[Value.ref b] s) (F0 m 33 ls []) := by
  obtain ⟨hx, hb, hr, hml, hown, hts0, hX, hbl, hlocks, hgv⟩ := id C0
  have hts := lw_hts hts0
  have hbA : ¬ lwA s b := Nat.not_le.mpr hbl
  intro n
  induction n with
  | zero => intro j ej hj; omega
  | succ n ih =>
    intro j ej hj C M f H locs ls hR hP hD hS hl
    refine lv_iload hx hb d_law_33 (lv_at hl 4 rfl) ?_
    refine lv_aload_n hx hb d_law_35 rfl (lv_at hl 0 rfl) ?_
    refine va_slen hx hb hX hbl hbA hS d_law_36 ?_
    refine lv_bipush (v := 6) hx hb d_law_37 (by decide) ?_
    refine lv_isub hx hb d_law_39 ?_
    refine lv_icmp_gt (tgt := 1084) hx hb d_law_40 (by decide) (fun c_1 => ?_) (fun c_1 => ?_)
    · refine lv_iconst (v := 1) hx hb d_law_1084 (by decide) ?_
      refine va_forget (fun q hq => hS.2.2 q hq) ?_
      refine W.widen (k := 619262) (n := 7238284) (by omega) (by omega) ?_
      exact lw_ret hx hb hr hlocks d_law_1085
    · have hi := u_lim hL (by omega) c_1
      have k78 : lK78 p l e s m b below meth c D t a ao bm (1 + 6 * j) (c0 + j + 1) (s0 + 6 * j + 6) := by
        intro C M f H locs ls hR hP hD hS hl
        refine lv_iinc (v := nI (1 + 6 * (j + 1))) (lv' := [(4, .int (nI (1 + 6 * (j + 1)))), (0, .ref b), (1, .ref (a 699)), (2, .ref (bm 0)), (3, .ref ao)]) hx hb d_law_1078 hl (k := 4) rfl (by show nI (1 + 6 * j) + nI 6 = _; rw [nI_add]; congr 1) (by decide) rfl (fun ls hl => ?_)
        refine lv_goto (tgt := 33) hx hb d_law_1081 (by decide) ?_
        refine W.widen (k := c0 + (j + 1)) (n := s0 + 6 * (j + 1)) (by omega) (by omega) ?_
        exact ih (j + 1) (by omega) (by omega) C M f H locs ls hR hP hD hS (lv_sub hl [1, 2, 3, 4, 0] rfl)
      have hc : c0 + j + 1 ≤ room_1.cells ∧ s0 + 6 * j + 6 ≤ room_1.slots := ⟨by show _ ≤ 619262; omega, by show _ ≤ 7238284; omega⟩
      refine lv_aload_n hx hb d_law_43 rfl (lv_at hl 0 rfl) ?_
      refine lv_iload hx hb d_law_44 (lv_at hl 4 rfl) ?_
      refine va_sld hx hb hX hbl hbA hS (vp_in_nI (by omega) (by omega)) d_law_46 ?_
      refine lv_bipush (v := 15) hx hb d_law_47 (by decide) ?_
      refine lv_iand hx hb d_law_49 ?_
      obtain ⟨k, hk, ek⟩ := u_and15 (xs (nI (1 + 6 * j)).toNatClampNeg)
      rw [ek]
      rcases (show k = 0 ∨ k = 1 ∨ k = 2 ∨ k = 3 ∨ k = 4 ∨ k = 5 ∨ k = 6 ∨ k = 7 ∨ k = 8 ∨ k = 9 ∨ k = 10 ∨ k = 11 ∨ k = 12 ∨ k = 13 ∨ k = 14 ∨ k = 15 by omega) with rfl | rfl | rfl | rfl | rfl | rfl | rfl | rfl | rfl | rfl | rfl | rfl | rfl | rfl | rfl | rfl
      · refine lv_tableIn (off := 70) (tgt := 120) hx hb d_law_50 (by decide) (by decide) (by decide) (by decide) ?_
        exact law_carton l hl0 hL C0 hK hxo hno hi hc hR hP hD hS hl k78
      · refine lv_tableIn (off := 174) (tgt := 224) hx hb d_law_50 (by decide) (by decide) (by decide) (by decide) ?_
        exact law_part l hl0 hL C0 hK hxo hno hi hc hR hP hD hS hl k78
      · refine lv_tableIn (off := 278) (tgt := 328) hx hb d_law_50 (by decide) (by decide) (by decide) (by decide) ?_
        exact law_fragile l hl0 hL C0 hK hxo hno hi hc hR hP hD hS hl k78
      · refine lv_tableIn (off := 369) (tgt := 419) hx hb d_law_50 (by decide) (by decide) (by decide) (by decide) ?_
        exact law_fits l hl0 hL C0 hK hxo hno hi hc hR hP hD hS hl k78
      · refine lv_tableIn (off := 444) (tgt := 494) hx hb d_law_50 (by decide) (by decide) (by decide) (by decide) ?_
        exact law_run l hl0 hL C0 hK hxo hno hi hc hR hP hD hS hl k78
      · refine lv_tableIn (off := 457) (tgt := 507) hx hb d_law_50 (by decide) (by decide) (by decide) (by decide) ?_
        exact law_at l hl0 hL C0 hK hxo hno hi hc hR hP hD hS hl k78
      · refine lv_tableIn (off := 525) (tgt := 575) hx hb d_law_50 (by decide) (by decide) (by decide) (by decide) ?_
        exact law_box l hl0 hL C0 hK hxo hno hi hc hR hP hD hS hl k78
      · refine lv_tableIn (off := 593) (tgt := 643) hx hb d_law_50 (by decide) (by decide) (by decide) (by decide) ?_
        exact law_cost l hl0 hL C0 hK hxo hno hi hc hR hP hD hS hl k78
      · refine lv_tableIn (off := 637) (tgt := 687) hx hb d_law_50 (by decide) (by decide) (by decide) (by decide) ?_
        exact law_manual l hl0 hL C0 hK hxo hno hi hc hR hP hD hS hl k78
      · refine lv_tableIn (off := 693) (tgt := 743) hx hb d_law_50 (by decide) (by decide) (by decide) (by decide) ?_
        exact law_bag l hl0 hL C0 hK hxo hno hi hc hR hP hD hS hl k78
      · refine lv_tableIn (off := 737) (tgt := 787) hx hb d_law_50 (by decide) (by decide) (by decide) (by decide) ?_
        exact law_into l hl0 hL C0 hK hxo hno hi hc hR hP hD hS hl k78
      · refine lv_tableIn (off := 829) (tgt := 879) hx hb d_law_50 (by decide) (by decide) (by decide) (by decide) ?_
        exact law_counted l hl0 hL C0 hK hxo hno hi hc hR hP hD hS hl k78
      · refine lv_tableIn (off := 897) (tgt := 947) hx hb d_law_50 (by decide) (by decide) (by decide) (by decide) ?_
        exact law_raised l hl0 hL C0 hK hxo hno hi hc hR hP hD hS hl k78
      · refine lv_tableIn (off := 972) (tgt := 1022) hx hb d_law_50 (by decide) (by decide) (by decide) (by decide) ?_
        exact law_pallets l hl0 hL C0 hK hxo hno hi hc hR hP hD hS hl k78
      · refine lv_tableOut (tgt := 1078) hx hb d_law_50 (by decide) (by decide) ?_
        refine W.widen (k := c0 + j + 1) (n := s0 + 6 * j + 6) (by omega) (by omega) ?_
        exact k78 C M f H locs ls hR hP hD hS hl
      · refine lv_tableOut (tgt := 1078) hx hb d_law_50 (by decide) (by decide) ?_
        refine W.widen (k := c0 + j + 1) (n := s0 + 6 * j + 6) (by omega) (by omega) ?_
        exact k78 C M f H locs ls hR hP hD hS hl
end
