section
/-! the law -/
def lwA (s : State) : Nat → Prop := fun q => s.heap.size ≤ q
theorem lw_hts {b : Nat} {s : State} (h : ∀ w ∈ lw_tbl, w.before #[Value.ref b] s = true) : ∀ w ∈ (Cond.initialized R_Lw :: gBig), w.before #[Value.ref b] s = true := by
  intro w hw
  rcases List.mem_cons.mp hw with rfl | hw
  · exact h _ (List.mem_append_right _ k_0)
  · exact h w (List.mem_filter.mp hw).1
section LCMP
variable {p : Program} {l : Launch} {e : Env} {R : Room} {s : State} {m : MethodId} {args : Array Value} {below : List Frame} {meth : Method} {c : Code} {H : Heap} {locs : List Loc} {cells slots : Nat} {Q : State → Prop} {cc : ByteArray} {pc : Nat} {ls : Array Slot} {rest : List Value}
theorem g_lcmp0 (hexec : p.tables.exec = Jvm.exec) (hb : c.code = cc) {x y : Int64} (h : x = y) (hdg : decode cc pc = .ok (.lcmp, 1))
    (k : W p l e R s m args below meth c H locs cells slots Q (F0 m (pc + 1) ls (.int 0 :: rest))) : W p l e R s m args below meth c H locs cells slots Q (F0 m pc ls (.long y :: .long x :: rest)) := by
  subst h
  intro T hT X
  obtain ⟨t, a, b⟩ := k T hT X
  refine ⟨t, ?_, b⟩
  jvm_step X.here [X.here.top, hexec, hb, hdg]
  exact a
end LCMP
theorem sc_in {i L k : Nat} (hi : i + 6 ≤ L) (hL : L ≤ 3073) (hk : k ≤ 5) : vp_in (nI i + nI k) L := by
  rw [nI_add]
  exact vp_in_nI (by omega) (by omega)
def lK78 (p : Program) (l : Launch) (e : Env) (s : State) (m : MethodId) (b : Nat) (below : List Frame) (meth : Method) (c : Code) (D : va_G) (t : Nat → ClassId) (a : Nat → Nat) (ao : Nat) (bm : Nat → Nat) (i cells slots : Nat) : Prop :=
  ∀ (C M : Nat → Nat → Int32) (f : Nat → Int64) (H : Heap) (locs : List Loc) (ls : Array Slot), Rel C M → va_P D gCl (wLw t a ao C f ++ wMd t bm M) H → va_D (lwA s) (wLw t a ao C f ++ wMd t bm M) → va_S (lwA s) s.heap H locs → lv_has ls 7 [(0, .ref b), (1, .ref (a 699)), (2, .ref (bm 0)), (3, .ref ao), (4, .int (nI i))] → W p l e room_1 s m #[Value.ref b] below meth c H locs cells slots (lw_Z below #[Value.ref b] s) (F0 m 1078 ls [])
theorem gg_Lw_76 (w0 : Cond) : GoodIn (w0 :: gBig) (wsV R_Lw 76 R_Md y_Md_carton (.code y_Md_carton b_Md_carton 7 (some .int) :: gBig)) := gGoodV (gIn k_773 (by decide +kernel)) (gIn k_774 (by decide +kernel)) (gIn k_775 (by decide +kernel)) (gIn k_9 (by decide +kernel)) (gIn k_776 (by decide +kernel))
theorem gg_Lw_77 (w0 : Cond) : GoodIn (w0 :: gBig) (wsV R_Lw 77 R_Md y_Md_thrown (.code y_Md_thrown b_Md_thrown 1 (some .int) :: gBig)) := gGoodV (gIn k_769 (by decide +kernel)) (gIn k_770 (by decide +kernel)) (gIn k_771 (by decide +kernel)) (gIn k_9 (by decide +kernel)) (gIn k_772 (by decide +kernel))
theorem gg_Lw_82 (w0 : Cond) : GoodIn (w0 :: gBig) (wsV R_Lw 82 R_Md y_Md_part (.code y_Md_part b_Md_part 7 (some .int) :: gBig)) := gGoodV (gIn k_784 (by decide +kernel)) (gIn k_785 (by decide +kernel)) (gIn k_786 (by decide +kernel)) (gIn k_9 (by decide +kernel)) (gIn k_787 (by decide +kernel))
theorem gg_Lw_86 (w0 : Cond) : GoodIn (w0 :: gBig) (wsV R_Lw 86 R_Md y_Md_fragile (.code y_Md_fragile b_Md_fragile 4 (some .boolean) :: gBig)) := gGoodV (gIn k_789 (by decide +kernel)) (gIn k_790 (by decide +kernel)) (gIn k_791 (by decide +kernel)) (gIn k_9 (by decide +kernel)) (gIn k_792 (by decide +kernel))
theorem gg_Lw_90 (w0 : Cond) : GoodIn (w0 :: gBig) (wsV R_Lw 90 R_Md y_Md_fits (.code y_Md_fits b_Md_fits 3 (some .boolean) :: gBig)) := gGoodV (gIn k_793 (by decide +kernel)) (gIn k_794 (by decide +kernel)) (gIn k_795 (by decide +kernel)) (gIn k_9 (by decide +kernel)) (gIn k_796 (by decide +kernel))
theorem gg_Lw_97 (w0 : Cond) : GoodIn (w0 :: gBig) (wsV R_Lw 97 R_Md y_Md_at (.code y_Md_at b_Md_at 6 (some .int) :: gBig)) := gGoodV (gIn k_837 (by decide +kernel)) (gIn k_838 (by decide +kernel)) (gIn k_839 (by decide +kernel)) (gIn k_9 (by decide +kernel)) (gIn k_840 (by decide +kernel))
theorem gg_Lw_100 (w0 : Cond) : GoodIn (w0 :: gBig) (wsV R_Lw 100 R_Md y_Md_box (.code y_Md_box b_Md_box 6 (some .int) :: gBig)) := gGoodV (gIn k_849 (by decide +kernel)) (gIn k_850 (by decide +kernel)) (gIn k_851 (by decide +kernel)) (gIn k_9 (by decide +kernel)) (gIn k_852 (by decide +kernel))
theorem gg_Lw_104 (w0 : Cond) : GoodIn (w0 :: gBig) (wsV R_Lw 104 R_Md y_Md_cost (.code y_Md_cost b_Md_cost 1 (some .int) :: gBig)) := gGoodV (gIn k_857 (by decide +kernel)) (gIn k_858 (by decide +kernel)) (gIn k_859 (by decide +kernel)) (gIn k_9 (by decide +kernel)) (gIn k_860 (by decide +kernel))
theorem gg_Lw_108 (w0 : Cond) : GoodIn (w0 :: gBig) (wsV R_Lw 108 R_Md y_Md_manual (.code y_Md_manual b_Md_manual 5 (some .int) :: gBig)) := gGoodV (gIn k_861 (by decide +kernel)) (gIn k_862 (by decide +kernel)) (gIn k_863 (by decide +kernel)) (gIn k_9 (by decide +kernel)) (gIn k_864 (by decide +kernel))
theorem gg_Lw_111 (w0 : Cond) : GoodIn (w0 :: gBig) (wsV R_Lw 111 R_Md y_Md_bag (.code y_Md_bag b_Md_bag 1 (some .int) :: gBig)) := gGoodV (gIn k_865 (by decide +kernel)) (gIn k_866 (by decide +kernel)) (gIn k_867 (by decide +kernel)) (gIn k_9 (by decide +kernel)) (gIn k_868 (by decide +kernel))
theorem gg_Lw_115 (w0 : Cond) : GoodIn (w0 :: gBig) (wsV R_Lw 115 R_Md y_Md_into (.code y_Md_into b_Md_into 7 (some .int) :: gBig)) := gGoodV (gIn k_869 (by decide +kernel)) (gIn k_870 (by decide +kernel)) (gIn k_871 (by decide +kernel)) (gIn k_9 (by decide +kernel)) (gIn k_872 (by decide +kernel))
theorem gg_Lw_118 (w0 : Cond) : GoodIn (w0 :: gBig) (wsV R_Lw 118 R_Md y_Md_counted (.code y_Md_counted b_Md_counted 7 (some .int) :: gBig)) := gGoodV (gIn k_873 (by decide +kernel)) (gIn k_874 (by decide +kernel)) (gIn k_875 (by decide +kernel)) (gIn k_9 (by decide +kernel)) (gIn k_876 (by decide +kernel))
theorem gg_Lw_121 (w0 : Cond) : GoodIn (w0 :: gBig) (wsV R_Lw 121 R_Md y_Md_raised (.code y_Md_raised b_Md_raised 4 (some .boolean) :: gBig)) := gGoodV (gIn k_880 (by decide +kernel)) (gIn k_881 (by decide +kernel)) (gIn k_882 (by decide +kernel)) (gIn k_9 (by decide +kernel)) (gIn k_883 (by decide +kernel))
theorem gg_Lw_124 (w0 : Cond) : GoodIn (w0 :: gBig) (wsV R_Lw 124 R_Md y_Md_pallets (.code y_Md_pallets b_Md_pallets 8 (some .int) :: gBig)) := gGoodV (gIn k_884 (by decide +kernel)) (gIn k_885 (by decide +kernel)) (gIn k_886 (by decide +kernel)) (gIn k_9 (by decide +kernel)) (gIn k_887 (by decide +kernel))
theorem gg_Lw_91 (w0 : Cond) : GoodIn (w0 :: gBig) (wsV R_Lw 91 R_Fb y_Fb_run (.code y_Fb_run b_Fb_run 1 (some .int) :: gBig)) := gGoodV (gIn k_263 (by decide +kernel)) (gIn k_264 (by decide +kernel)) (gIn k_265 (by decide +kernel)) (gIn k_1 (by decide +kernel)) (gIn k_266 (by decide +kernel))
theorem gg_Lw_94 (w0 : Cond) : GoodIn (w0 :: gBig) (wsV R_Lw 94 R_Md y_Md_run (.code y_Md_run b_Md_run 6 (some .int) :: gBig)) := gGoodV (gIn k_817 (by decide +kernel)) (gIn k_818 (by decide +kernel)) (gIn k_819 (by decide +kernel)) (gIn k_9 (by decide +kernel)) (gIn k_820 (by decide +kernel))
set_option maxHeartbeats 4000000 in
set_option maxRecDepth 100000 in
theorem law_carton {p : Program} {e : Env} {s : State} {m : MethodId} {below : List Frame} {meth : Method} {c : Code} (l : Launch) (hl0 : l.stackTraces = false) {b L : Nat} {xs : Nat → Int32} (hL : L ≤ 3073) (C0 : lw_At p s m meth c b L xs) {D : va_G} {t : Nat → ClassId} (hK : gK D t s) (hxo : xOK (lwA s) s s.heap) (hno : xNo s) {a : Nat → Nat} {ao : Nat} {bm : Nat → Nat} {i : Nat} (hi : i + 6 ≤ L) {C M : Nat → Nat → Int32} {f : Nat → Int64} {H : Heap} {locs : List Loc} {ls : Array Slot} {cells slots : Nat} (hc : cells + 1 ≤ room_1.cells ∧ slots + 6 ≤ room_1.slots) (hR : Rel C M) (hP : va_P D gCl (wLw t a ao C f ++ wMd t bm M) H) (hD : va_D (lwA s) (wLw t a ao C f ++ wMd t bm M)) (hS : va_S (lwA s) s.heap H locs) (hl : lv_has ls 7 [(0, .ref b), (1, .ref (a 699)), (2, .ref (bm 0)), (3, .ref ao), (4, .int (nI i))]) (k78 : lK78 p l e s m b below meth c D t a ao bm i (cells + 1) (slots + 6)) :
    W p l e room_1 s m #[Value.ref b] below meth c H locs cells slots (lw_Z below #[Value.ref b] s) (F0 m 120 ls []) := by
  obtain ⟨hx, hb, hr, hml, hown, hts0, hX, hbl, hlocks, hgv⟩ := id C0
  have hts := lw_hts hts0
  have hbA : ¬ lwA s b := Nat.not_le.mpr hbl
  have hF : CallFix p m c code 7 s #[Value.ref b] (Cond.initialized R_Lw :: gBig) R_Lw := ⟨hx, hb, hml, hown, hts⟩
  obtain ⟨nH, k, C1, f1, r, M1, hnH, hq, hm, hk0, hv, hR1⟩ := L_carton l D t a ao bm f (xs (nI i + 1).toNatClampNeg) (xs (nI i + 2).toNatClampNeg) (xs (nI i + 3).toNatClampNeg) (xs (nI i + 4).toNatClampNeg) (xs (nI i + 5).toNatClampNeg) hl0 hR
  refine lv_aload_n hx hb d_law_120 rfl (lv_at hl 1 rfl) ?_
  refine lv_aload_n hx hb d_law_121 rfl (lv_at hl 0 rfl) ?_
  refine lv_iload hx hb d_law_122 (lv_at hl 4 rfl) ?_
  refine lv_iconst (v := 1) hx hb d_law_124 (by decide) ?_
  refine lv_iadd hx hb d_law_125 ?_
  refine va_sld hx hb hX hbl hbA hS (sc_in (k := 1) hi hL (by decide)) d_law_126 ?_
  refine lv_aload_n hx hb d_law_127 rfl (lv_at hl 0 rfl) ?_
  refine lv_iload hx hb d_law_128 (lv_at hl 4 rfl) ?_
  refine lv_iconst (v := 2) hx hb d_law_130 (by decide) ?_
  refine lv_iadd hx hb d_law_131 ?_
  refine va_sld hx hb hX hbl hbA hS (sc_in (k := 2) hi hL (by decide)) d_law_132 ?_
  refine lv_aload_n hx hb d_law_133 rfl (lv_at hl 0 rfl) ?_
  refine lv_iload hx hb d_law_134 (lv_at hl 4 rfl) ?_
  refine lv_iconst (v := 3) hx hb d_law_136 (by decide) ?_
  refine lv_iadd hx hb d_law_137 ?_
  refine va_sld hx hb hX hbl hbA hS (sc_in (k := 3) hi hL (by decide)) d_law_138 ?_
  refine lv_aload_n hx hb d_law_139 rfl (lv_at hl 0 rfl) ?_
  refine lv_iload hx hb d_law_140 (lv_at hl 4 rfl) ?_
  refine lv_iconst (v := 4) hx hb d_law_142 (by decide) ?_
  refine lv_iadd hx hb d_law_143 ?_
  refine va_sld hx hb hX hbl hbA hS (sc_in (k := 4) hi hL (by decide)) d_law_144 ?_
  refine lv_aload_n hx hb d_law_145 rfl (lv_at hl 0 rfl) ?_
  refine lv_iload hx hb d_law_146 (lv_at hl 4 rfl) ?_
  refine lv_iconst (v := 5) hx hb d_law_148 (by decide) ?_
  refine lv_iadd hx hb d_law_149 ?_
  refine va_sld hx hb hX hbl hbA hS (sc_in (k := 5) hi hL (by decide)) d_law_150 ?_
  refine lv_aload_n hx hb d_law_151 rfl (lv_at hl 3 rfl) ?_
  refine h_sw (k := 7) (As := [.ref (a 699), .int (xs (nI i + 1).toNatClampNeg), .int (xs (nI i + 2).toNatClampNeg), .int (xs (nI i + 3).toNatClampNeg), .int (xs (nI i + 4).toNatClampNeg), .int (xs (nI i + 5).toNatClampNeg), .ref ao]) (rest := []) (own := R_Lw) (index := 73) (w1 := wLw t a ao C f) (w2 := wMd t bm M) hF hq (gIn k_383 (by decide +kernel)) (gIn k_384 (by decide +kernel)) (gIn k_0 (by decide +kernel)) (gIn k_385 (by decide +kernel)) (by decide +kernel) ⟨by show nH + 1 ≤ 2048; omega, by show 8 + (8 + 11) + 40 * nH ≤ 84000; omega⟩ rfl hK hP hD hS (hxo.kept hS.2.1) hno hl.1 rfl (Nat.le_of_ble_eq_true rfl) hc d_law_152 (fun r_1 u_1 H locs q_1 hP hD hS _ => ?_)
  rw [q_1.2] at hP hD
  rw [q_1.1]
  have hP := gSwapP (w1 := wLw t a ao C1 f1) (w2 := wMd t bm M) hP
  have hD := gSwapD (w1 := wLw t a ao C1 f1) (w2 := wMd t bm M) hD
  refine lv_istore (lv' := [(5, .int k), (0, .ref b), (1, .ref (a 699)), (2, .ref (bm 0)), (3, .ref ao), (4, .int (nI i))]) hx hb d_law_155 hl (by decide) rfl (fun ls hl => ?_)
  refine lv_aload_n hx hb d_law_157 rfl (lv_at hl 3 rfl) ?_
  refine lv_aload_n hx hb d_law_158 rfl (lv_at hl 1 rfl) ?_
  refine lv_iload hx hb d_law_159 (lv_at hl 5 rfl) ?_
  refine lv_iconst (v := 1) hx hb d_law_161 (by decide) ?_
  refine lv_iadd hx hb d_law_162 ?_
  refine va_sld hx hb hX hbl hbA hS (sc_in (k := 1) hi hL (by decide)) d_law_163 ?_
  refine lv_aload_n hx hb d_law_164 rfl (lv_at hl 1 rfl) ?_
  refine lv_iload hx hb d_law_165 (lv_at hl 5 rfl) ?_
  refine lv_iconst (v := 2) hx hb d_law_167 (by decide) ?_
  refine lv_iadd hx hb d_law_168 ?_
  refine va_sld hx hb hX hbl hbA hS (sc_in (k := 2) hi hL (by decide)) d_law_169 ?_
  refine lv_aload_n hx hb d_law_170 rfl (lv_at hl 1 rfl) ?_
  refine lv_iload hx hb d_law_171 (lv_at hl 5 rfl) ?_
  refine lv_iconst (v := 3) hx hb d_law_173 (by decide) ?_
  refine lv_iadd hx hb d_law_174 ?_
  refine va_sld hx hb hX hbl hbA hS (sc_in (k := 3) hi hL (by decide)) d_law_175 ?_
  refine lv_aload_n hx hb d_law_176 rfl (lv_at hl 1 rfl) ?_
  refine lv_iload hx hb d_law_177 (lv_at hl 5 rfl) ?_
  refine lv_iconst (v := 4) hx hb d_law_179 (by decide) ?_
  refine lv_iadd hx hb d_law_180 ?_
  refine va_sld hx hb hX hbl hbA hS (sc_in (k := 4) hi hL (by decide)) d_law_181 ?_
  refine lv_aload_n hx hb d_law_182 rfl (lv_at hl 1 rfl) ?_
  refine lv_iload hx hb d_law_183 (lv_at hl 5 rfl) ?_
  refine lv_iconst (v := 5) hx hb d_law_185 (by decide) ?_
  refine lv_iadd hx hb d_law_186 ?_
  refine va_sld hx hb hX hbl hbA hS (sc_in (k := 5) hi hL (by decide)) d_law_187 ?_
  refine g_viS (k := 5) (As := [.int (xs (nI i + 1).toNatClampNeg), .int (xs (nI i + 2).toNatClampNeg), .int (xs (nI i + 3).toNatClampNeg), .int (xs (nI i + 4).toNatClampNeg), .int (xs (nI i + 5).toNatClampNeg)]) (rest := []) (own := R_Lw) (C := R_Md) (index := 76) (w1 := wMd t bm M) (w2 := wLw t a ao C1 f1) hF hm (gg_Lw_76 _) (by decide +kernel) ⟨Nat.le_of_ble_eq_true rfl, Nat.le_of_ble_eq_true rfl⟩ rfl (va_recv hK.1 (gSplit hP).1 (ci := 7) (q0 := 0) rfl (wMd_0 t bm M)) hK hP hD hS hl.1 rfl (Nat.le_of_ble_eq_true rfl) hc d_law_188 (fun r_2 u_2 H locs q_2 hP hD hS => ?_)
  rw [q_2.2] at hP hD
  rw [q_2.1]
  refine lv_istore (lv' := [(6, .int r), (5, .int k), (0, .ref b), (1, .ref (a 699)), (2, .ref (bm 0)), (3, .ref ao), (4, .int (nI i))]) hx hb d_law_191 hl (by decide) rfl (fun ls hl => ?_)
  refine lv_aload_n hx hb d_law_193 rfl (lv_at hl 4 rfl) ?_
  refine g_viS (k := 0) (As := []) (rest := []) (own := R_Lw) (C := R_Md) (index := 77) (w1 := wMd t bm M1) (w2 := wLw t a ao C1 f1) hF (c_Md_thrown l D t bm M1) (gg_Lw_77 _) (by decide +kernel) ⟨Nat.le_of_ble_eq_true rfl, Nat.le_of_ble_eq_true rfl⟩ rfl (va_recv hK.1 (gSplit hP).1 (ci := 7) (q0 := 0) rfl (wMd_0 t bm M1)) hK hP hD hS hl.1 rfl (Nat.le_of_ble_eq_true rfl) hc d_law_194 (fun r_3 u_3 H locs q_3 hP hD hS => ?_)
  rw [q_3.2] at hP hD
  rw [q_3.1]
  have hP := gSwapP (w1 := wMd t bm M1) (w2 := wLw t a ao C1 f1) hP
  have hD := gSwapD (w1 := wMd t bm M1) (w2 := wLw t a ao C1 f1) hD
  refine lv_iload hx hb d_law_197 (lv_at hl 1 rfl) ?_
  refine lv_icmp_eq (tgt := 204) hx hb d_law_199 (by decide) (fun c_1 => ?_) (fun c_1 => absurd hk0 c_1)
  refine lv_iload hx hb d_law_204 (lv_at hl 1 rfl) ?_
  refine lv_if_ne (tgt := 221) hx hb d_law_206 (by decide) (fun c_2 => ?_) (fun c_2 => ?_)
  · refine lv_goto (tgt := 1078) hx hb d_law_221 (by decide) ?_
    exact k78 C1 M1 f1 H locs ls hR1 hP hD hS (lv_sub hl [2, 3, 4, 5, 6] rfl)
  · have hv := hv c_2
    refine lv_aload_n hx hb d_law_209 rfl (lv_at hl 5 rfl) ?_
    refine lv_iconst (v := 0) hx hb d_law_210 (by decide) ?_
    refine va_lald hx hb hK.1 hP 67 3 (a := ao) (cA := t 3) (n := 1) (f := f1) rfl rfl (i := 0) (by unfold vp_in; decide) d_law_211 ?_
    refine lv_iload hx hb d_law_212 (lv_at hl 0 rfl) ?_
    refine lv_i2l (v := r.toInt64) hx hb d_law_214 rfl ?_
    refine g_lcmp0 hx hb (hv) d_law_215 ?_
    refine lv_if_eq (tgt := 221) hx hb d_law_216 (by decide) (fun c_3 => ?_) (fun c_3 => absurd rfl c_3)
    refine lv_goto (tgt := 1078) hx hb d_law_221 (by decide) ?_
    exact k78 C1 M1 f1 H locs ls hR1 hP hD hS (lv_sub hl [2, 3, 4, 5, 6] rfl)
set_option maxHeartbeats 4000000 in
set_option maxRecDepth 100000 in
theorem law_part {p : Program} {e : Env} {s : State} {m : MethodId} {below : List Frame} {meth : Method} {c : Code} (l : Launch) (hl0 : l.stackTraces = false) {b L : Nat} {xs : Nat → Int32} (hL : L ≤ 3073) (C0 : lw_At p s m meth c b L xs) {D : va_G} {t : Nat → ClassId} (hK : gK D t s) (hxo : xOK (lwA s) s s.heap) (hno : xNo s) {a : Nat → Nat} {ao : Nat} {bm : Nat → Nat} {i : Nat} (hi : i + 6 ≤ L) {C M : Nat → Nat → Int32} {f : Nat → Int64} {H : Heap} {locs : List Loc} {ls : Array Slot} {cells slots : Nat} (hc : cells + 1 ≤ room_1.cells ∧ slots + 6 ≤ room_1.slots) (hR : Rel C M) (hP : va_P D gCl (wLw t a ao C f ++ wMd t bm M) H) (hD : va_D (lwA s) (wLw t a ao C f ++ wMd t bm M)) (hS : va_S (lwA s) s.heap H locs) (hl : lv_has ls 7 [(0, .ref b), (1, .ref (a 699)), (2, .ref (bm 0)), (3, .ref ao), (4, .int (nI i))]) (k78 : lK78 p l e s m b below meth c D t a ao bm i (cells + 1) (slots + 6)) :
    W p l e room_1 s m #[Value.ref b] below meth c H locs cells slots (lw_Z below #[Value.ref b] s) (F0 m 224 ls []) := by
  obtain ⟨hx, hb, hr, hml, hown, hts0, hX, hbl, hlocks, hgv⟩ := id C0
  have hts := lw_hts hts0
  have hbA : ¬ lwA s b := Nat.not_le.mpr hbl
  have hF : CallFix p m c code 7 s #[Value.ref b] (Cond.initialized R_Lw :: gBig) R_Lw := ⟨hx, hb, hml, hown, hts⟩
  obtain ⟨nH, k, C1, f1, r, M1, hnH, hq, hm, hk0, hv, hR1⟩ := L_part l D t a ao bm f (xs (nI i + 1).toNatClampNeg) (xs (nI i + 2).toNatClampNeg) (xs (nI i + 3).toNatClampNeg) (xs (nI i + 4).toNatClampNeg) (xs (nI i + 5).toNatClampNeg) hl0 hR
  refine lv_aload_n hx hb d_law_224 rfl (lv_at hl 1 rfl) ?_
  refine lv_aload_n hx hb d_law_225 rfl (lv_at hl 0 rfl) ?_
  refine lv_iload hx hb d_law_226 (lv_at hl 4 rfl) ?_
  refine lv_iconst (v := 1) hx hb d_law_228 (by decide) ?_
  refine lv_iadd hx hb d_law_229 ?_
  refine va_sld hx hb hX hbl hbA hS (sc_in (k := 1) hi hL (by decide)) d_law_230 ?_
  refine lv_aload_n hx hb d_law_231 rfl (lv_at hl 0 rfl) ?_
  refine lv_iload hx hb d_law_232 (lv_at hl 4 rfl) ?_
  refine lv_iconst (v := 2) hx hb d_law_234 (by decide) ?_
  refine lv_iadd hx hb d_law_235 ?_
  refine va_sld hx hb hX hbl hbA hS (sc_in (k := 2) hi hL (by decide)) d_law_236 ?_
  refine lv_aload_n hx hb d_law_237 rfl (lv_at hl 0 rfl) ?_
  refine lv_iload hx hb d_law_238 (lv_at hl 4 rfl) ?_
  refine lv_iconst (v := 3) hx hb d_law_240 (by decide) ?_
  refine lv_iadd hx hb d_law_241 ?_
  refine va_sld hx hb hX hbl hbA hS (sc_in (k := 3) hi hL (by decide)) d_law_242 ?_
  refine lv_aload_n hx hb d_law_243 rfl (lv_at hl 0 rfl) ?_
  refine lv_iload hx hb d_law_244 (lv_at hl 4 rfl) ?_
  refine lv_iconst (v := 4) hx hb d_law_246 (by decide) ?_
  refine lv_iadd hx hb d_law_247 ?_
  refine va_sld hx hb hX hbl hbA hS (sc_in (k := 4) hi hL (by decide)) d_law_248 ?_
  refine lv_aload_n hx hb d_law_249 rfl (lv_at hl 0 rfl) ?_
  refine lv_iload hx hb d_law_250 (lv_at hl 4 rfl) ?_
  refine lv_iconst (v := 5) hx hb d_law_252 (by decide) ?_
  refine lv_iadd hx hb d_law_253 ?_
  refine va_sld hx hb hX hbl hbA hS (sc_in (k := 5) hi hL (by decide)) d_law_254 ?_
  refine lv_aload_n hx hb d_law_255 rfl (lv_at hl 3 rfl) ?_
  refine h_sw (k := 7) (As := [.ref (a 699), .int (xs (nI i + 1).toNatClampNeg), .int (xs (nI i + 2).toNatClampNeg), .int (xs (nI i + 3).toNatClampNeg), .int (xs (nI i + 4).toNatClampNeg), .int (xs (nI i + 5).toNatClampNeg), .ref ao]) (rest := []) (own := R_Lw) (index := 80) (w1 := wLw t a ao C f) (w2 := wMd t bm M) hF hq (gIn k_492 (by decide +kernel)) (gIn k_493 (by decide +kernel)) (gIn k_0 (by decide +kernel)) (gIn k_494 (by decide +kernel)) (by decide +kernel) ⟨by show nH + 1 ≤ 2048; omega, by show 8 + (8 + 11) + 40 * nH ≤ 84000; omega⟩ rfl hK hP hD hS (hxo.kept hS.2.1) hno hl.1 rfl (Nat.le_of_ble_eq_true rfl) hc d_law_256 (fun r_1 u_1 H locs q_1 hP hD hS _ => ?_)
  rw [q_1.2] at hP hD
  rw [q_1.1]
  have hP := gSwapP (w1 := wLw t a ao C1 f1) (w2 := wMd t bm M) hP
  have hD := gSwapD (w1 := wLw t a ao C1 f1) (w2 := wMd t bm M) hD
  refine lv_istore (lv' := [(5, .int k), (0, .ref b), (1, .ref (a 699)), (2, .ref (bm 0)), (3, .ref ao), (4, .int (nI i))]) hx hb d_law_259 hl (by decide) rfl (fun ls hl => ?_)
  refine lv_aload_n hx hb d_law_261 rfl (lv_at hl 3 rfl) ?_
  refine lv_aload_n hx hb d_law_262 rfl (lv_at hl 1 rfl) ?_
  refine lv_iload hx hb d_law_263 (lv_at hl 5 rfl) ?_
  refine lv_iconst (v := 1) hx hb d_law_265 (by decide) ?_
  refine lv_iadd hx hb d_law_266 ?_
  refine va_sld hx hb hX hbl hbA hS (sc_in (k := 1) hi hL (by decide)) d_law_267 ?_
  refine lv_aload_n hx hb d_law_268 rfl (lv_at hl 1 rfl) ?_
  refine lv_iload hx hb d_law_269 (lv_at hl 5 rfl) ?_
  refine lv_iconst (v := 2) hx hb d_law_271 (by decide) ?_
  refine lv_iadd hx hb d_law_272 ?_
  refine va_sld hx hb hX hbl hbA hS (sc_in (k := 2) hi hL (by decide)) d_law_273 ?_
  refine lv_aload_n hx hb d_law_274 rfl (lv_at hl 1 rfl) ?_
  refine lv_iload hx hb d_law_275 (lv_at hl 5 rfl) ?_
  refine lv_iconst (v := 3) hx hb d_law_277 (by decide) ?_
  refine lv_iadd hx hb d_law_278 ?_
  refine va_sld hx hb hX hbl hbA hS (sc_in (k := 3) hi hL (by decide)) d_law_279 ?_
  refine lv_aload_n hx hb d_law_280 rfl (lv_at hl 1 rfl) ?_
  refine lv_iload hx hb d_law_281 (lv_at hl 5 rfl) ?_
  refine lv_iconst (v := 4) hx hb d_law_283 (by decide) ?_
  refine lv_iadd hx hb d_law_284 ?_
  refine va_sld hx hb hX hbl hbA hS (sc_in (k := 4) hi hL (by decide)) d_law_285 ?_
  refine lv_aload_n hx hb d_law_286 rfl (lv_at hl 1 rfl) ?_
  refine lv_iload hx hb d_law_287 (lv_at hl 5 rfl) ?_
  refine lv_iconst (v := 5) hx hb d_law_289 (by decide) ?_
  refine lv_iadd hx hb d_law_290 ?_
  refine va_sld hx hb hX hbl hbA hS (sc_in (k := 5) hi hL (by decide)) d_law_291 ?_
  refine g_viS (k := 5) (As := [.int (xs (nI i + 1).toNatClampNeg), .int (xs (nI i + 2).toNatClampNeg), .int (xs (nI i + 3).toNatClampNeg), .int (xs (nI i + 4).toNatClampNeg), .int (xs (nI i + 5).toNatClampNeg)]) (rest := []) (own := R_Lw) (C := R_Md) (index := 82) (w1 := wMd t bm M) (w2 := wLw t a ao C1 f1) hF hm (gg_Lw_82 _) (by decide +kernel) ⟨Nat.le_of_ble_eq_true rfl, Nat.le_of_ble_eq_true rfl⟩ rfl (va_recv hK.1 (gSplit hP).1 (ci := 7) (q0 := 0) rfl (wMd_0 t bm M)) hK hP hD hS hl.1 rfl (Nat.le_of_ble_eq_true rfl) hc d_law_292 (fun r_2 u_2 H locs q_2 hP hD hS => ?_)
  rw [q_2.2] at hP hD
  rw [q_2.1]
  refine lv_istore (lv' := [(6, .int r), (5, .int k), (0, .ref b), (1, .ref (a 699)), (2, .ref (bm 0)), (3, .ref ao), (4, .int (nI i))]) hx hb d_law_295 hl (by decide) rfl (fun ls hl => ?_)
  refine lv_aload_n hx hb d_law_297 rfl (lv_at hl 4 rfl) ?_
  refine g_viS (k := 0) (As := []) (rest := []) (own := R_Lw) (C := R_Md) (index := 77) (w1 := wMd t bm M1) (w2 := wLw t a ao C1 f1) hF (c_Md_thrown l D t bm M1) (gg_Lw_77 _) (by decide +kernel) ⟨Nat.le_of_ble_eq_true rfl, Nat.le_of_ble_eq_true rfl⟩ rfl (va_recv hK.1 (gSplit hP).1 (ci := 7) (q0 := 0) rfl (wMd_0 t bm M1)) hK hP hD hS hl.1 rfl (Nat.le_of_ble_eq_true rfl) hc d_law_298 (fun r_3 u_3 H locs q_3 hP hD hS => ?_)
  rw [q_3.2] at hP hD
  rw [q_3.1]
  have hP := gSwapP (w1 := wMd t bm M1) (w2 := wLw t a ao C1 f1) hP
  have hD := gSwapD (w1 := wMd t bm M1) (w2 := wLw t a ao C1 f1) hD
  refine lv_iload hx hb d_law_301 (lv_at hl 1 rfl) ?_
  refine lv_icmp_eq (tgt := 308) hx hb d_law_303 (by decide) (fun c_1 => ?_) (fun c_1 => absurd hk0 c_1)
  refine lv_iload hx hb d_law_308 (lv_at hl 1 rfl) ?_
  refine lv_if_ne (tgt := 325) hx hb d_law_310 (by decide) (fun c_2 => ?_) (fun c_2 => ?_)
  · refine lv_goto (tgt := 1078) hx hb d_law_325 (by decide) ?_
    exact k78 C1 M1 f1 H locs ls hR1 hP hD hS (lv_sub hl [2, 3, 4, 5, 6] rfl)
  · have hv := hv c_2
    refine lv_aload_n hx hb d_law_313 rfl (lv_at hl 5 rfl) ?_
    refine lv_iconst (v := 0) hx hb d_law_314 (by decide) ?_
    refine va_lald hx hb hK.1 hP 67 3 (a := ao) (cA := t 3) (n := 1) (f := f1) rfl rfl (i := 0) (by unfold vp_in; decide) d_law_315 ?_
    refine lv_iload hx hb d_law_316 (lv_at hl 0 rfl) ?_
    refine lv_i2l (v := r.toInt64) hx hb d_law_318 rfl ?_
    refine g_lcmp0 hx hb (hv) d_law_319 ?_
    refine lv_if_eq (tgt := 325) hx hb d_law_320 (by decide) (fun c_3 => ?_) (fun c_3 => absurd rfl c_3)
    refine lv_goto (tgt := 1078) hx hb d_law_325 (by decide) ?_
    exact k78 C1 M1 f1 H locs ls hR1 hP hD hS (lv_sub hl [2, 3, 4, 5, 6] rfl)
set_option maxHeartbeats 4000000 in
set_option maxRecDepth 100000 in
theorem law_fragile {p : Program} {e : Env} {s : State} {m : MethodId} {below : List Frame} {meth : Method} {c : Code} (l : Launch) (hl0 : l.stackTraces = false) {b L : Nat} {xs : Nat → Int32} (hL : L ≤ 3073) (C0 : lw_At p s m meth c b L xs) {D : va_G} {t : Nat → ClassId} (hK : gK D t s) (hxo : xOK (lwA s) s s.heap) (hno : xNo s) {a : Nat → Nat} {ao : Nat} {bm : Nat → Nat} {i : Nat} (hi : i + 6 ≤ L) {C M : Nat → Nat → Int32} {f : Nat → Int64} {H : Heap} {locs : List Loc} {ls : Array Slot} {cells slots : Nat} (hc : cells + 1 ≤ room_1.cells ∧ slots + 6 ≤ room_1.slots) (hR : Rel C M) (hP : va_P D gCl (wLw t a ao C f ++ wMd t bm M) H) (hD : va_D (lwA s) (wLw t a ao C f ++ wMd t bm M)) (hS : va_S (lwA s) s.heap H locs) (hl : lv_has ls 7 [(0, .ref b), (1, .ref (a 699)), (2, .ref (bm 0)), (3, .ref ao), (4, .int (nI i))]) (k78 : lK78 p l e s m b below meth c D t a ao bm i (cells + 1) (slots + 6)) :
    W p l e room_1 s m #[Value.ref b] below meth c H locs cells slots (lw_Z below #[Value.ref b] s) (F0 m 328 ls []) := by
  obtain ⟨hx, hb, hr, hml, hown, hts0, hX, hbl, hlocks, hgv⟩ := id C0
  have hts := lw_hts hts0
  have hbA : ¬ lwA s b := Nat.not_le.mpr hbl
  have hF : CallFix p m c code 7 s #[Value.ref b] (Cond.initialized R_Lw :: gBig) R_Lw := ⟨hx, hb, hml, hown, hts⟩
  obtain ⟨nH, k, C1, f1, r, M1, hnH, hq, hm, hk0, hv, hR1⟩ := L_fragile l D t a ao bm f (xs (nI i + 1).toNatClampNeg) (if xs (nI i + 2).toNatClampNeg = 0 then 0 else 1) hl0 (by split; exact Or.inl rfl; exact Or.inr rfl) hR
  refine lv_aload_n hx hb d_law_328 rfl (lv_at hl 1 rfl) ?_
  refine lv_aload_n hx hb d_law_329 rfl (lv_at hl 0 rfl) ?_
  refine lv_iload hx hb d_law_330 (lv_at hl 4 rfl) ?_
  refine lv_iconst (v := 1) hx hb d_law_332 (by decide) ?_
  refine lv_iadd hx hb d_law_333 ?_
  refine va_sld hx hb hX hbl hbA hS (sc_in (k := 1) hi hL (by decide)) d_law_334 ?_
  refine lv_aload_n hx hb d_law_335 rfl (lv_at hl 0 rfl) ?_
  refine lv_iload hx hb d_law_336 (lv_at hl 4 rfl) ?_
  refine lv_iconst (v := 2) hx hb d_law_338 (by decide) ?_
  refine lv_iadd hx hb d_law_339 ?_
  refine va_sld hx hb hX hbl hbA hS (sc_in (k := 2) hi hL (by decide)) d_law_340 ?_
  have key1 : W p l e room_1 s m #[Value.ref b] below meth c H locs cells slots (lw_Z below #[Value.ref b] s) (F0 m 349 ls (.int (if xs (nI i + 2).toNatClampNeg = 0 then 0 else 1) :: .int (xs (nI i + 1).toNatClampNeg) :: [.ref (a 699)])) → W p l e room_1 s m #[Value.ref b] below meth c H locs cells slots (lw_Z below #[Value.ref b] s) (F0 m 341 ls (.int (xs (nI i + 2).toNatClampNeg) :: .int (xs (nI i + 1).toNatClampNeg) :: [.ref (a 699)])) := fun kk => by
    refine lv_if_eq (tgt := 348) hx hb d_law_341 (by decide) (fun c_9 => ?_) (fun c_9 => ?_)
    · refine lv_iconst (v := 0) hx hb d_law_348 (by decide) ?_
      rw [if_pos c_9] at kk
      exact kk
    · refine lv_iconst (v := 1) hx hb d_law_344 (by decide) ?_
      refine lv_goto (tgt := 349) hx hb d_law_345 (by decide) ?_
      rw [if_neg c_9] at kk
      exact kk
  refine key1 ?_
  refine lv_aload_n hx hb d_law_349 rfl (lv_at hl 3 rfl) ?_
  refine h_sw (k := 4) (As := [.ref (a 699), .int (xs (nI i + 1).toNatClampNeg), .int (if xs (nI i + 2).toNatClampNeg = 0 then 0 else 1), .ref ao]) (rest := []) (own := R_Lw) (index := 83) (w1 := wLw t a ao C f) (w2 := wMd t bm M) hF hq (gIn k_514 (by decide +kernel)) (gIn k_515 (by decide +kernel)) (gIn k_0 (by decide +kernel)) (gIn k_516 (by decide +kernel)) (by decide +kernel) ⟨by show nH + 1 ≤ 2048; omega, by show 8 + (5 + 11) + 40 * nH ≤ 84000; omega⟩ rfl hK hP hD hS (hxo.kept hS.2.1) hno hl.1 rfl (Nat.le_of_ble_eq_true rfl) hc d_law_350 (fun r_1 u_1 H locs q_1 hP hD hS _ => ?_)
  rw [q_1.2] at hP hD
  rw [q_1.1]
  have hP := gSwapP (w1 := wLw t a ao C1 f1) (w2 := wMd t bm M) hP
  have hD := gSwapD (w1 := wLw t a ao C1 f1) (w2 := wMd t bm M) hD
  refine lv_istore (lv' := [(5, .int k), (0, .ref b), (1, .ref (a 699)), (2, .ref (bm 0)), (3, .ref ao), (4, .int (nI i))]) hx hb d_law_353 hl (by decide) rfl (fun ls hl => ?_)
  refine lv_aload_n hx hb d_law_355 rfl (lv_at hl 3 rfl) ?_
  refine lv_aload_n hx hb d_law_356 rfl (lv_at hl 1 rfl) ?_
  refine lv_iload hx hb d_law_357 (lv_at hl 5 rfl) ?_
  refine lv_iconst (v := 1) hx hb d_law_359 (by decide) ?_
  refine lv_iadd hx hb d_law_360 ?_
  refine va_sld hx hb hX hbl hbA hS (sc_in (k := 1) hi hL (by decide)) d_law_361 ?_
  refine lv_aload_n hx hb d_law_362 rfl (lv_at hl 1 rfl) ?_
  refine lv_iload hx hb d_law_363 (lv_at hl 5 rfl) ?_
  refine lv_iconst (v := 2) hx hb d_law_365 (by decide) ?_
  refine lv_iadd hx hb d_law_366 ?_
  refine va_sld hx hb hX hbl hbA hS (sc_in (k := 2) hi hL (by decide)) d_law_367 ?_
  have key2 : W p l e room_1 s m #[Value.ref b] below meth c H locs (cells + 1) (slots + 6) (lw_Z below #[Value.ref b] s) (F0 m 376 ls (.int (if xs (nI i + 2).toNatClampNeg = 0 then 0 else 1) :: .int (xs (nI i + 1).toNatClampNeg) :: [.ref (bm 0)])) → W p l e room_1 s m #[Value.ref b] below meth c H locs (cells + 1) (slots + 6) (lw_Z below #[Value.ref b] s) (F0 m 368 ls (.int (xs (nI i + 2).toNatClampNeg) :: .int (xs (nI i + 1).toNatClampNeg) :: [.ref (bm 0)])) := fun kk => by
    refine lv_if_eq (tgt := 375) hx hb d_law_368 (by decide) (fun c_9 => ?_) (fun c_9 => ?_)
    · refine lv_iconst (v := 0) hx hb d_law_375 (by decide) ?_
      rw [if_pos c_9] at kk
      exact kk
    · refine lv_iconst (v := 1) hx hb d_law_371 (by decide) ?_
      refine lv_goto (tgt := 376) hx hb d_law_372 (by decide) ?_
      rw [if_neg c_9] at kk
      exact kk
  refine key2 ?_
  refine g_viS (k := 2) (As := [.int (xs (nI i + 1).toNatClampNeg), .int (if xs (nI i + 2).toNatClampNeg = 0 then 0 else 1)]) (rest := []) (own := R_Lw) (C := R_Md) (index := 86) (w1 := wMd t bm M) (w2 := wLw t a ao C1 f1) hF hm (gg_Lw_86 _) (by decide +kernel) ⟨Nat.le_of_ble_eq_true rfl, Nat.le_of_ble_eq_true rfl⟩ rfl (va_recv hK.1 (gSplit hP).1 (ci := 7) (q0 := 0) rfl (wMd_0 t bm M)) hK hP hD hS hl.1 rfl (Nat.le_of_ble_eq_true rfl) hc d_law_376 (fun r_2 u_2 H locs q_2 hP hD hS => ?_)
  rw [q_2.2] at hP hD
  rw [q_2.1]
  refine lv_istore (lv' := [(6, .int r), (5, .int k), (0, .ref b), (1, .ref (a 699)), (2, .ref (bm 0)), (3, .ref ao), (4, .int (nI i))]) hx hb d_law_379 hl (by decide) rfl (fun ls hl => ?_)
  refine lv_aload_n hx hb d_law_381 rfl (lv_at hl 4 rfl) ?_
  refine g_viS (k := 0) (As := []) (rest := []) (own := R_Lw) (C := R_Md) (index := 77) (w1 := wMd t bm M1) (w2 := wLw t a ao C1 f1) hF (c_Md_thrown l D t bm M1) (gg_Lw_77 _) (by decide +kernel) ⟨Nat.le_of_ble_eq_true rfl, Nat.le_of_ble_eq_true rfl⟩ rfl (va_recv hK.1 (gSplit hP).1 (ci := 7) (q0 := 0) rfl (wMd_0 t bm M1)) hK hP hD hS hl.1 rfl (Nat.le_of_ble_eq_true rfl) hc d_law_382 (fun r_3 u_3 H locs q_3 hP hD hS => ?_)
  rw [q_3.2] at hP hD
  rw [q_3.1]
  have hP := gSwapP (w1 := wMd t bm M1) (w2 := wLw t a ao C1 f1) hP
  have hD := gSwapD (w1 := wMd t bm M1) (w2 := wLw t a ao C1 f1) hD
  refine lv_iload hx hb d_law_385 (lv_at hl 1 rfl) ?_
  refine lv_icmp_eq (tgt := 392) hx hb d_law_387 (by decide) (fun c_1 => ?_) (fun c_1 => absurd hk0 c_1)
  refine lv_iload hx hb d_law_392 (lv_at hl 1 rfl) ?_
  refine lv_if_ne (tgt := 416) hx hb d_law_394 (by decide) (fun c_2 => ?_) (fun c_2 => ?_)
  · refine lv_goto (tgt := 1078) hx hb d_law_416 (by decide) ?_
    exact k78 C1 M1 f1 H locs ls hR1 hP hD hS (lv_sub hl [2, 3, 4, 5, 6] rfl)
  · have hv := hv c_2
    refine lv_aload_n hx hb d_law_397 rfl (lv_at hl 5 rfl) ?_
    refine lv_iconst (v := 0) hx hb d_law_398 (by decide) ?_
    refine va_lald hx hb hK.1 hP 67 3 (a := ao) (cA := t 3) (n := 1) (f := f1) rfl rfl (i := 0) (by unfold vp_in; decide) d_law_399 ?_
    refine lv_iload hx hb d_law_400 (lv_at hl 0 rfl) ?_
    refine lv_if_eq (tgt := 409) hx hb d_law_402 (by decide) (fun c_4 => ?_) (fun c_4 => ?_)
    · refine lv_lconst (v := 0) hx hb d_law_409 (by decide) ?_
      refine g_lcmp0 hx hb (by rw [if_pos c_4] at hv; exact hv) d_law_410 ?_
      refine lv_if_eq (tgt := 416) hx hb d_law_411 (by decide) (fun c_3 => ?_) (fun c_3 => absurd rfl c_3)
      refine lv_goto (tgt := 1078) hx hb d_law_416 (by decide) ?_
      exact k78 C1 M1 f1 H locs ls hR1 hP hD hS (lv_sub hl [2, 3, 4, 5, 6] rfl)
    · refine lv_lconst (v := 1) hx hb d_law_405 (by decide) ?_
      refine lv_goto (tgt := 410) hx hb d_law_406 (by decide) ?_
      refine g_lcmp0 hx hb (by rw [if_neg c_4] at hv; exact hv) d_law_410 ?_
      refine lv_if_eq (tgt := 416) hx hb d_law_411 (by decide) (fun c_3 => ?_) (fun c_3 => absurd rfl c_3)
      refine lv_goto (tgt := 1078) hx hb d_law_416 (by decide) ?_
      exact k78 C1 M1 f1 H locs ls hR1 hP hD hS (lv_sub hl [2, 3, 4, 5, 6] rfl)
set_option maxHeartbeats 4000000 in
set_option maxRecDepth 100000 in
theorem law_fits {p : Program} {e : Env} {s : State} {m : MethodId} {below : List Frame} {meth : Method} {c : Code} (l : Launch) (hl0 : l.stackTraces = false) {b L : Nat} {xs : Nat → Int32} (hL : L ≤ 3073) (C0 : lw_At p s m meth c b L xs) {D : va_G} {t : Nat → ClassId} (hK : gK D t s) (hxo : xOK (lwA s) s s.heap) (hno : xNo s) {a : Nat → Nat} {ao : Nat} {bm : Nat → Nat} {i : Nat} (hi : i + 6 ≤ L) {C M : Nat → Nat → Int32} {f : Nat → Int64} {H : Heap} {locs : List Loc} {ls : Array Slot} {cells slots : Nat} (hc : cells + 1 ≤ room_1.cells ∧ slots + 6 ≤ room_1.slots) (hR : Rel C M) (hP : va_P D gCl (wLw t a ao C f ++ wMd t bm M) H) (hD : va_D (lwA s) (wLw t a ao C f ++ wMd t bm M)) (hS : va_S (lwA s) s.heap H locs) (hl : lv_has ls 7 [(0, .ref b), (1, .ref (a 699)), (2, .ref (bm 0)), (3, .ref ao), (4, .int (nI i))]) (k78 : lK78 p l e s m b below meth c D t a ao bm i (cells + 1) (slots + 6)) :
    W p l e room_1 s m #[Value.ref b] below meth c H locs cells slots (lw_Z below #[Value.ref b] s) (F0 m 419 ls []) := by
  obtain ⟨hx, hb, hr, hml, hown, hts0, hX, hbl, hlocks, hgv⟩ := id C0
  have hts := lw_hts hts0
  have hbA : ¬ lwA s b := Nat.not_le.mpr hbl
  have hF : CallFix p m c code 7 s #[Value.ref b] (Cond.initialized R_Lw :: gBig) R_Lw := ⟨hx, hb, hml, hown, hts⟩
  obtain ⟨nH, k, C1, f1, r, M1, hnH, hq, hm, hk0, hv, hR1⟩ := L_fits l D t a ao bm f (xs (nI i + 1).toNatClampNeg) (xs (nI i + 2).toNatClampNeg) hl0 hR
  refine lv_aload_n hx hb d_law_419 rfl (lv_at hl 1 rfl) ?_
  refine lv_aload_n hx hb d_law_420 rfl (lv_at hl 0 rfl) ?_
  refine lv_iload hx hb d_law_421 (lv_at hl 4 rfl) ?_
  refine lv_iconst (v := 1) hx hb d_law_423 (by decide) ?_
  refine lv_iadd hx hb d_law_424 ?_
  refine va_sld hx hb hX hbl hbA hS (sc_in (k := 1) hi hL (by decide)) d_law_425 ?_
  refine lv_aload_n hx hb d_law_426 rfl (lv_at hl 0 rfl) ?_
  refine lv_iload hx hb d_law_427 (lv_at hl 4 rfl) ?_
  refine lv_iconst (v := 2) hx hb d_law_429 (by decide) ?_
  refine lv_iadd hx hb d_law_430 ?_
  refine va_sld hx hb hX hbl hbA hS (sc_in (k := 2) hi hL (by decide)) d_law_431 ?_
  refine lv_aload_n hx hb d_law_432 rfl (lv_at hl 3 rfl) ?_
  refine h_sw (k := 4) (As := [.ref (a 699), .int (xs (nI i + 1).toNatClampNeg), .int (xs (nI i + 2).toNatClampNeg), .ref ao]) (rest := []) (own := R_Lw) (index := 87) (w1 := wLw t a ao C f) (w2 := wMd t bm M) hF hq (gIn k_541 (by decide +kernel)) (gIn k_542 (by decide +kernel)) (gIn k_0 (by decide +kernel)) (gIn k_543 (by decide +kernel)) (by decide +kernel) ⟨by show nH + 1 ≤ 2048; omega, by show 8 + (5 + 11) + 40 * nH ≤ 84000; omega⟩ rfl hK hP hD hS (hxo.kept hS.2.1) hno hl.1 rfl (Nat.le_of_ble_eq_true rfl) hc d_law_433 (fun r_1 u_1 H locs q_1 hP hD hS _ => ?_)
  rw [q_1.2] at hP hD
  rw [q_1.1]
  have hP := gSwapP (w1 := wLw t a ao C1 f1) (w2 := wMd t bm M) hP
  have hD := gSwapD (w1 := wLw t a ao C1 f1) (w2 := wMd t bm M) hD
  refine lv_istore (lv' := [(5, .int k), (0, .ref b), (1, .ref (a 699)), (2, .ref (bm 0)), (3, .ref ao), (4, .int (nI i))]) hx hb d_law_436 hl (by decide) rfl (fun ls hl => ?_)
  refine lv_aload_n hx hb d_law_438 rfl (lv_at hl 3 rfl) ?_
  refine lv_aload_n hx hb d_law_439 rfl (lv_at hl 1 rfl) ?_
  refine lv_iload hx hb d_law_440 (lv_at hl 5 rfl) ?_
  refine lv_iconst (v := 1) hx hb d_law_442 (by decide) ?_
  refine lv_iadd hx hb d_law_443 ?_
  refine va_sld hx hb hX hbl hbA hS (sc_in (k := 1) hi hL (by decide)) d_law_444 ?_
  refine lv_aload_n hx hb d_law_445 rfl (lv_at hl 1 rfl) ?_
  refine lv_iload hx hb d_law_446 (lv_at hl 5 rfl) ?_
  refine lv_iconst (v := 2) hx hb d_law_448 (by decide) ?_
  refine lv_iadd hx hb d_law_449 ?_
  refine va_sld hx hb hX hbl hbA hS (sc_in (k := 2) hi hL (by decide)) d_law_450 ?_
  refine g_viS (k := 2) (As := [.int (xs (nI i + 1).toNatClampNeg), .int (xs (nI i + 2).toNatClampNeg)]) (rest := []) (own := R_Lw) (C := R_Md) (index := 90) (w1 := wMd t bm M) (w2 := wLw t a ao C1 f1) hF hm (gg_Lw_90 _) (by decide +kernel) ⟨Nat.le_of_ble_eq_true rfl, Nat.le_of_ble_eq_true rfl⟩ rfl (va_recv hK.1 (gSplit hP).1 (ci := 7) (q0 := 0) rfl (wMd_0 t bm M)) hK hP hD hS hl.1 rfl (Nat.le_of_ble_eq_true rfl) hc d_law_451 (fun r_2 u_2 H locs q_2 hP hD hS => ?_)
  rw [q_2.2] at hP hD
  rw [q_2.1]
  refine lv_istore (lv' := [(6, .int r), (5, .int k), (0, .ref b), (1, .ref (a 699)), (2, .ref (bm 0)), (3, .ref ao), (4, .int (nI i))]) hx hb d_law_454 hl (by decide) rfl (fun ls hl => ?_)
  refine lv_aload_n hx hb d_law_456 rfl (lv_at hl 4 rfl) ?_
  refine g_viS (k := 0) (As := []) (rest := []) (own := R_Lw) (C := R_Md) (index := 77) (w1 := wMd t bm M1) (w2 := wLw t a ao C1 f1) hF (c_Md_thrown l D t bm M1) (gg_Lw_77 _) (by decide +kernel) ⟨Nat.le_of_ble_eq_true rfl, Nat.le_of_ble_eq_true rfl⟩ rfl (va_recv hK.1 (gSplit hP).1 (ci := 7) (q0 := 0) rfl (wMd_0 t bm M1)) hK hP hD hS hl.1 rfl (Nat.le_of_ble_eq_true rfl) hc d_law_457 (fun r_3 u_3 H locs q_3 hP hD hS => ?_)
  rw [q_3.2] at hP hD
  rw [q_3.1]
  have hP := gSwapP (w1 := wMd t bm M1) (w2 := wLw t a ao C1 f1) hP
  have hD := gSwapD (w1 := wMd t bm M1) (w2 := wLw t a ao C1 f1) hD
  refine lv_iload hx hb d_law_460 (lv_at hl 1 rfl) ?_
  refine lv_icmp_eq (tgt := 467) hx hb d_law_462 (by decide) (fun c_1 => ?_) (fun c_1 => absurd hk0 c_1)
  refine lv_iload hx hb d_law_467 (lv_at hl 1 rfl) ?_
  refine lv_if_ne (tgt := 491) hx hb d_law_469 (by decide) (fun c_2 => ?_) (fun c_2 => ?_)
  · refine lv_goto (tgt := 1078) hx hb d_law_491 (by decide) ?_
    exact k78 C1 M1 f1 H locs ls hR1 hP hD hS (lv_sub hl [2, 3, 4, 5, 6] rfl)
  · have hv := hv c_2
    refine lv_aload_n hx hb d_law_472 rfl (lv_at hl 5 rfl) ?_
    refine lv_iconst (v := 0) hx hb d_law_473 (by decide) ?_
    refine va_lald hx hb hK.1 hP 67 3 (a := ao) (cA := t 3) (n := 1) (f := f1) rfl rfl (i := 0) (by unfold vp_in; decide) d_law_474 ?_
    refine lv_iload hx hb d_law_475 (lv_at hl 0 rfl) ?_
    refine lv_if_eq (tgt := 484) hx hb d_law_477 (by decide) (fun c_4 => ?_) (fun c_4 => ?_)
    · refine lv_lconst (v := 0) hx hb d_law_484 (by decide) ?_
      refine g_lcmp0 hx hb (by rw [if_pos c_4] at hv; exact hv) d_law_485 ?_
      refine lv_if_eq (tgt := 491) hx hb d_law_486 (by decide) (fun c_3 => ?_) (fun c_3 => absurd rfl c_3)
      refine lv_goto (tgt := 1078) hx hb d_law_491 (by decide) ?_
      exact k78 C1 M1 f1 H locs ls hR1 hP hD hS (lv_sub hl [2, 3, 4, 5, 6] rfl)
    · refine lv_lconst (v := 1) hx hb d_law_480 (by decide) ?_
      refine lv_goto (tgt := 485) hx hb d_law_481 (by decide) ?_
      refine g_lcmp0 hx hb (by rw [if_neg c_4] at hv; exact hv) d_law_485 ?_
      refine lv_if_eq (tgt := 491) hx hb d_law_486 (by decide) (fun c_3 => ?_) (fun c_3 => absurd rfl c_3)
      refine lv_goto (tgt := 1078) hx hb d_law_491 (by decide) ?_
      exact k78 C1 M1 f1 H locs ls hR1 hP hD hS (lv_sub hl [2, 3, 4, 5, 6] rfl)
set_option maxHeartbeats 4000000 in
set_option maxRecDepth 100000 in
theorem law_at {p : Program} {e : Env} {s : State} {m : MethodId} {below : List Frame} {meth : Method} {c : Code} (l : Launch) (hl0 : l.stackTraces = false) {b L : Nat} {xs : Nat → Int32} (hL : L ≤ 3073) (C0 : lw_At p s m meth c b L xs) {D : va_G} {t : Nat → ClassId} (hK : gK D t s) (hxo : xOK (lwA s) s s.heap) (hno : xNo s) {a : Nat → Nat} {ao : Nat} {bm : Nat → Nat} {i : Nat} (hi : i + 6 ≤ L) {C M : Nat → Nat → Int32} {f : Nat → Int64} {H : Heap} {locs : List Loc} {ls : Array Slot} {cells slots : Nat} (hc : cells + 1 ≤ room_1.cells ∧ slots + 6 ≤ room_1.slots) (hR : Rel C M) (hP : va_P D gCl (wLw t a ao C f ++ wMd t bm M) H) (hD : va_D (lwA s) (wLw t a ao C f ++ wMd t bm M)) (hS : va_S (lwA s) s.heap H locs) (hl : lv_has ls 7 [(0, .ref b), (1, .ref (a 699)), (2, .ref (bm 0)), (3, .ref ao), (4, .int (nI i))]) (k78 : lK78 p l e s m b below meth c D t a ao bm i (cells + 1) (slots + 6)) :
    W p l e room_1 s m #[Value.ref b] below meth c H locs cells slots (lw_Z below #[Value.ref b] s) (F0 m 507 ls []) := by
  obtain ⟨hx, hb, hr, hml, hown, hts0, hX, hbl, hlocks, hgv⟩ := id C0
  have hts := lw_hts hts0
  have hbA : ¬ lwA s b := Nat.not_le.mpr hbl
  have hF : CallFix p m c code 7 s #[Value.ref b] (Cond.initialized R_Lw :: gBig) R_Lw := ⟨hx, hb, hml, hown, hts⟩
  obtain ⟨nH, k, C1, f1, r, M1, hnH, hq, hm, hk0, hv, hR1⟩ := L_at l D t a ao bm f (xs (nI i + 1).toNatClampNeg) (xs (nI i + 2).toNatClampNeg) hl0 hR
  refine lv_aload_n hx hb d_law_507 rfl (lv_at hl 1 rfl) ?_
  refine lv_aload_n hx hb d_law_508 rfl (lv_at hl 0 rfl) ?_
  refine lv_iload hx hb d_law_509 (lv_at hl 4 rfl) ?_
  refine lv_iconst (v := 1) hx hb d_law_511 (by decide) ?_
  refine lv_iadd hx hb d_law_512 ?_
  refine va_sld hx hb hX hbl hbA hS (sc_in (k := 1) hi hL (by decide)) d_law_513 ?_
  refine lv_aload_n hx hb d_law_514 rfl (lv_at hl 0 rfl) ?_
  refine lv_iload hx hb d_law_515 (lv_at hl 4 rfl) ?_
  refine lv_iconst (v := 2) hx hb d_law_517 (by decide) ?_
  refine lv_iadd hx hb d_law_518 ?_
  refine va_sld hx hb hX hbl hbA hS (sc_in (k := 2) hi hL (by decide)) d_law_519 ?_
  refine lv_aload_n hx hb d_law_520 rfl (lv_at hl 3 rfl) ?_
  refine h_sw (k := 4) (As := [.ref (a 699), .int (xs (nI i + 1).toNatClampNeg), .int (xs (nI i + 2).toNatClampNeg), .ref ao]) (rest := []) (own := R_Lw) (index := 95) (w1 := wLw t a ao C f) (w2 := wMd t bm M) hF hq (gIn k_552 (by decide +kernel)) (gIn k_553 (by decide +kernel)) (gIn k_0 (by decide +kernel)) (gIn k_554 (by decide +kernel)) (by decide +kernel) ⟨by show nH + 1 ≤ 2048; omega, by show 8 + (5 + 11) + 40 * nH ≤ 84000; omega⟩ rfl hK hP hD hS (hxo.kept hS.2.1) hno hl.1 rfl (Nat.le_of_ble_eq_true rfl) hc d_law_521 (fun r_1 u_1 H locs q_1 hP hD hS _ => ?_)
  rw [q_1.2] at hP hD
  rw [q_1.1]
  have hP := gSwapP (w1 := wLw t a ao C1 f1) (w2 := wMd t bm M) hP
  have hD := gSwapD (w1 := wLw t a ao C1 f1) (w2 := wMd t bm M) hD
  refine lv_istore (lv' := [(5, .int k), (0, .ref b), (1, .ref (a 699)), (2, .ref (bm 0)), (3, .ref ao), (4, .int (nI i))]) hx hb d_law_524 hl (by decide) rfl (fun ls hl => ?_)
  refine lv_aload_n hx hb d_law_526 rfl (lv_at hl 3 rfl) ?_
  refine lv_aload_n hx hb d_law_527 rfl (lv_at hl 1 rfl) ?_
  refine lv_iload hx hb d_law_528 (lv_at hl 5 rfl) ?_
  refine lv_iconst (v := 1) hx hb d_law_530 (by decide) ?_
  refine lv_iadd hx hb d_law_531 ?_
  refine va_sld hx hb hX hbl hbA hS (sc_in (k := 1) hi hL (by decide)) d_law_532 ?_
  refine lv_aload_n hx hb d_law_533 rfl (lv_at hl 1 rfl) ?_
  refine lv_iload hx hb d_law_534 (lv_at hl 5 rfl) ?_
  refine lv_iconst (v := 2) hx hb d_law_536 (by decide) ?_
  refine lv_iadd hx hb d_law_537 ?_
  refine va_sld hx hb hX hbl hbA hS (sc_in (k := 2) hi hL (by decide)) d_law_538 ?_
  refine g_viS (k := 2) (As := [.int (xs (nI i + 1).toNatClampNeg), .int (xs (nI i + 2).toNatClampNeg)]) (rest := []) (own := R_Lw) (C := R_Md) (index := 97) (w1 := wMd t bm M) (w2 := wLw t a ao C1 f1) hF hm (gg_Lw_97 _) (by decide +kernel) ⟨Nat.le_of_ble_eq_true rfl, Nat.le_of_ble_eq_true rfl⟩ rfl (va_recv hK.1 (gSplit hP).1 (ci := 7) (q0 := 0) rfl (wMd_0 t bm M)) hK hP hD hS hl.1 rfl (Nat.le_of_ble_eq_true rfl) hc d_law_539 (fun r_2 u_2 H locs q_2 hP hD hS => ?_)
  rw [q_2.2] at hP hD
  rw [q_2.1]
  refine lv_istore (lv' := [(6, .int r), (5, .int k), (0, .ref b), (1, .ref (a 699)), (2, .ref (bm 0)), (3, .ref ao), (4, .int (nI i))]) hx hb d_law_542 hl (by decide) rfl (fun ls hl => ?_)
  refine lv_aload_n hx hb d_law_544 rfl (lv_at hl 4 rfl) ?_
  refine g_viS (k := 0) (As := []) (rest := []) (own := R_Lw) (C := R_Md) (index := 77) (w1 := wMd t bm M1) (w2 := wLw t a ao C1 f1) hF (c_Md_thrown l D t bm M1) (gg_Lw_77 _) (by decide +kernel) ⟨Nat.le_of_ble_eq_true rfl, Nat.le_of_ble_eq_true rfl⟩ rfl (va_recv hK.1 (gSplit hP).1 (ci := 7) (q0 := 0) rfl (wMd_0 t bm M1)) hK hP hD hS hl.1 rfl (Nat.le_of_ble_eq_true rfl) hc d_law_545 (fun r_3 u_3 H locs q_3 hP hD hS => ?_)
  rw [q_3.2] at hP hD
  rw [q_3.1]
  have hP := gSwapP (w1 := wMd t bm M1) (w2 := wLw t a ao C1 f1) hP
  have hD := gSwapD (w1 := wMd t bm M1) (w2 := wLw t a ao C1 f1) hD
  refine lv_iload hx hb d_law_548 (lv_at hl 1 rfl) ?_
  refine lv_icmp_eq (tgt := 555) hx hb d_law_550 (by decide) (fun c_1 => ?_) (fun c_1 => absurd hk0 c_1)
  refine lv_iload hx hb d_law_555 (lv_at hl 1 rfl) ?_
  refine lv_if_ne (tgt := 572) hx hb d_law_557 (by decide) (fun c_2 => ?_) (fun c_2 => ?_)
  · refine lv_goto (tgt := 1078) hx hb d_law_572 (by decide) ?_
    exact k78 C1 M1 f1 H locs ls hR1 hP hD hS (lv_sub hl [2, 3, 4, 5, 6] rfl)
  · have hv := hv c_2
    refine lv_aload_n hx hb d_law_560 rfl (lv_at hl 5 rfl) ?_
    refine lv_iconst (v := 0) hx hb d_law_561 (by decide) ?_
    refine va_lald hx hb hK.1 hP 67 3 (a := ao) (cA := t 3) (n := 1) (f := f1) rfl rfl (i := 0) (by unfold vp_in; decide) d_law_562 ?_
    refine lv_iload hx hb d_law_563 (lv_at hl 0 rfl) ?_
    refine lv_i2l (v := r.toInt64) hx hb d_law_565 rfl ?_
    refine g_lcmp0 hx hb (hv) d_law_566 ?_
    refine lv_if_eq (tgt := 572) hx hb d_law_567 (by decide) (fun c_3 => ?_) (fun c_3 => absurd rfl c_3)
    refine lv_goto (tgt := 1078) hx hb d_law_572 (by decide) ?_
    exact k78 C1 M1 f1 H locs ls hR1 hP hD hS (lv_sub hl [2, 3, 4, 5, 6] rfl)
set_option maxHeartbeats 4000000 in
set_option maxRecDepth 100000 in
theorem law_box {p : Program} {e : Env} {s : State} {m : MethodId} {below : List Frame} {meth : Method} {c : Code} (l : Launch) (hl0 : l.stackTraces = false) {b L : Nat} {xs : Nat → Int32} (hL : L ≤ 3073) (C0 : lw_At p s m meth c b L xs) {D : va_G} {t : Nat → ClassId} (hK : gK D t s) (hxo : xOK (lwA s) s s.heap) (hno : xNo s) {a : Nat → Nat} {ao : Nat} {bm : Nat → Nat} {i : Nat} (hi : i + 6 ≤ L) {C M : Nat → Nat → Int32} {f : Nat → Int64} {H : Heap} {locs : List Loc} {ls : Array Slot} {cells slots : Nat} (hc : cells + 1 ≤ room_1.cells ∧ slots + 6 ≤ room_1.slots) (hR : Rel C M) (hP : va_P D gCl (wLw t a ao C f ++ wMd t bm M) H) (hD : va_D (lwA s) (wLw t a ao C f ++ wMd t bm M)) (hS : va_S (lwA s) s.heap H locs) (hl : lv_has ls 7 [(0, .ref b), (1, .ref (a 699)), (2, .ref (bm 0)), (3, .ref ao), (4, .int (nI i))]) (k78 : lK78 p l e s m b below meth c D t a ao bm i (cells + 1) (slots + 6)) :
    W p l e room_1 s m #[Value.ref b] below meth c H locs cells slots (lw_Z below #[Value.ref b] s) (F0 m 575 ls []) := by
  obtain ⟨hx, hb, hr, hml, hown, hts0, hX, hbl, hlocks, hgv⟩ := id C0
  have hts := lw_hts hts0
  have hbA : ¬ lwA s b := Nat.not_le.mpr hbl
  have hF : CallFix p m c code 7 s #[Value.ref b] (Cond.initialized R_Lw :: gBig) R_Lw := ⟨hx, hb, hml, hown, hts⟩
  obtain ⟨nH, k, C1, f1, r, M1, hnH, hq, hm, hk0, hv, hR1⟩ := L_box l D t a ao bm f (xs (nI i + 1).toNatClampNeg) (xs (nI i + 2).toNatClampNeg) hl0 hR
  refine lv_aload_n hx hb d_law_575 rfl (lv_at hl 1 rfl) ?_
  refine lv_aload_n hx hb d_law_576 rfl (lv_at hl 0 rfl) ?_
  refine lv_iload hx hb d_law_577 (lv_at hl 4 rfl) ?_
  refine lv_iconst (v := 1) hx hb d_law_579 (by decide) ?_
  refine lv_iadd hx hb d_law_580 ?_
  refine va_sld hx hb hX hbl hbA hS (sc_in (k := 1) hi hL (by decide)) d_law_581 ?_
  refine lv_aload_n hx hb d_law_582 rfl (lv_at hl 0 rfl) ?_
  refine lv_iload hx hb d_law_583 (lv_at hl 4 rfl) ?_
  refine lv_iconst (v := 2) hx hb d_law_585 (by decide) ?_
  refine lv_iadd hx hb d_law_586 ?_
  refine va_sld hx hb hX hbl hbA hS (sc_in (k := 2) hi hL (by decide)) d_law_587 ?_
  refine lv_aload_n hx hb d_law_588 rfl (lv_at hl 3 rfl) ?_
  refine h_sw (k := 4) (As := [.ref (a 699), .int (xs (nI i + 1).toNatClampNeg), .int (xs (nI i + 2).toNatClampNeg), .ref ao]) (rest := []) (own := R_Lw) (index := 98) (w1 := wLw t a ao C f) (w2 := wMd t bm M) hF hq (gIn k_565 (by decide +kernel)) (gIn k_566 (by decide +kernel)) (gIn k_0 (by decide +kernel)) (gIn k_567 (by decide +kernel)) (by decide +kernel) ⟨by show nH + 1 ≤ 2048; omega, by show 8 + (5 + 11) + 40 * nH ≤ 84000; omega⟩ rfl hK hP hD hS (hxo.kept hS.2.1) hno hl.1 rfl (Nat.le_of_ble_eq_true rfl) hc d_law_589 (fun r_1 u_1 H locs q_1 hP hD hS _ => ?_)
  rw [q_1.2] at hP hD
  rw [q_1.1]
  have hP := gSwapP (w1 := wLw t a ao C1 f1) (w2 := wMd t bm M) hP
  have hD := gSwapD (w1 := wLw t a ao C1 f1) (w2 := wMd t bm M) hD
  refine lv_istore (lv' := [(5, .int k), (0, .ref b), (1, .ref (a 699)), (2, .ref (bm 0)), (3, .ref ao), (4, .int (nI i))]) hx hb d_law_592 hl (by decide) rfl (fun ls hl => ?_)
  refine lv_aload_n hx hb d_law_594 rfl (lv_at hl 3 rfl) ?_
  refine lv_aload_n hx hb d_law_595 rfl (lv_at hl 1 rfl) ?_
  refine lv_iload hx hb d_law_596 (lv_at hl 5 rfl) ?_
  refine lv_iconst (v := 1) hx hb d_law_598 (by decide) ?_
  refine lv_iadd hx hb d_law_599 ?_
  refine va_sld hx hb hX hbl hbA hS (sc_in (k := 1) hi hL (by decide)) d_law_600 ?_
  refine lv_aload_n hx hb d_law_601 rfl (lv_at hl 1 rfl) ?_
  refine lv_iload hx hb d_law_602 (lv_at hl 5 rfl) ?_
  refine lv_iconst (v := 2) hx hb d_law_604 (by decide) ?_
  refine lv_iadd hx hb d_law_605 ?_
  refine va_sld hx hb hX hbl hbA hS (sc_in (k := 2) hi hL (by decide)) d_law_606 ?_
  refine g_viS (k := 2) (As := [.int (xs (nI i + 1).toNatClampNeg), .int (xs (nI i + 2).toNatClampNeg)]) (rest := []) (own := R_Lw) (C := R_Md) (index := 100) (w1 := wMd t bm M) (w2 := wLw t a ao C1 f1) hF hm (gg_Lw_100 _) (by decide +kernel) ⟨Nat.le_of_ble_eq_true rfl, Nat.le_of_ble_eq_true rfl⟩ rfl (va_recv hK.1 (gSplit hP).1 (ci := 7) (q0 := 0) rfl (wMd_0 t bm M)) hK hP hD hS hl.1 rfl (Nat.le_of_ble_eq_true rfl) hc d_law_607 (fun r_2 u_2 H locs q_2 hP hD hS => ?_)
  rw [q_2.2] at hP hD
  rw [q_2.1]
  refine lv_istore (lv' := [(6, .int r), (5, .int k), (0, .ref b), (1, .ref (a 699)), (2, .ref (bm 0)), (3, .ref ao), (4, .int (nI i))]) hx hb d_law_610 hl (by decide) rfl (fun ls hl => ?_)
  refine lv_aload_n hx hb d_law_612 rfl (lv_at hl 4 rfl) ?_
  refine g_viS (k := 0) (As := []) (rest := []) (own := R_Lw) (C := R_Md) (index := 77) (w1 := wMd t bm M1) (w2 := wLw t a ao C1 f1) hF (c_Md_thrown l D t bm M1) (gg_Lw_77 _) (by decide +kernel) ⟨Nat.le_of_ble_eq_true rfl, Nat.le_of_ble_eq_true rfl⟩ rfl (va_recv hK.1 (gSplit hP).1 (ci := 7) (q0 := 0) rfl (wMd_0 t bm M1)) hK hP hD hS hl.1 rfl (Nat.le_of_ble_eq_true rfl) hc d_law_613 (fun r_3 u_3 H locs q_3 hP hD hS => ?_)
  rw [q_3.2] at hP hD
  rw [q_3.1]
  have hP := gSwapP (w1 := wMd t bm M1) (w2 := wLw t a ao C1 f1) hP
  have hD := gSwapD (w1 := wMd t bm M1) (w2 := wLw t a ao C1 f1) hD
  refine lv_iload hx hb d_law_616 (lv_at hl 1 rfl) ?_
  refine lv_icmp_eq (tgt := 623) hx hb d_law_618 (by decide) (fun c_1 => ?_) (fun c_1 => absurd hk0 c_1)
  refine lv_iload hx hb d_law_623 (lv_at hl 1 rfl) ?_
  refine lv_if_ne (tgt := 640) hx hb d_law_625 (by decide) (fun c_2 => ?_) (fun c_2 => ?_)
  · refine lv_goto (tgt := 1078) hx hb d_law_640 (by decide) ?_
    exact k78 C1 M1 f1 H locs ls hR1 hP hD hS (lv_sub hl [2, 3, 4, 5, 6] rfl)
  · have hv := hv c_2
    refine lv_aload_n hx hb d_law_628 rfl (lv_at hl 5 rfl) ?_
    refine lv_iconst (v := 0) hx hb d_law_629 (by decide) ?_
    refine va_lald hx hb hK.1 hP 67 3 (a := ao) (cA := t 3) (n := 1) (f := f1) rfl rfl (i := 0) (by unfold vp_in; decide) d_law_630 ?_
    refine lv_iload hx hb d_law_631 (lv_at hl 0 rfl) ?_
    refine lv_i2l (v := r.toInt64) hx hb d_law_633 rfl ?_
    refine g_lcmp0 hx hb (hv) d_law_634 ?_
    refine lv_if_eq (tgt := 640) hx hb d_law_635 (by decide) (fun c_3 => ?_) (fun c_3 => absurd rfl c_3)
    refine lv_goto (tgt := 1078) hx hb d_law_640 (by decide) ?_
    exact k78 C1 M1 f1 H locs ls hR1 hP hD hS (lv_sub hl [2, 3, 4, 5, 6] rfl)
set_option maxHeartbeats 4000000 in
set_option maxRecDepth 100000 in
theorem law_cost {p : Program} {e : Env} {s : State} {m : MethodId} {below : List Frame} {meth : Method} {c : Code} (l : Launch) (hl0 : l.stackTraces = false) {b L : Nat} {xs : Nat → Int32} (hL : L ≤ 3073) (C0 : lw_At p s m meth c b L xs) {D : va_G} {t : Nat → ClassId} (hK : gK D t s) (hxo : xOK (lwA s) s s.heap) (hno : xNo s) {a : Nat → Nat} {ao : Nat} {bm : Nat → Nat} {i : Nat} (hi : i + 6 ≤ L) {C M : Nat → Nat → Int32} {f : Nat → Int64} {H : Heap} {locs : List Loc} {ls : Array Slot} {cells slots : Nat} (hc : cells + 1 ≤ room_1.cells ∧ slots + 6 ≤ room_1.slots) (hR : Rel C M) (hP : va_P D gCl (wLw t a ao C f ++ wMd t bm M) H) (hD : va_D (lwA s) (wLw t a ao C f ++ wMd t bm M)) (hS : va_S (lwA s) s.heap H locs) (hl : lv_has ls 7 [(0, .ref b), (1, .ref (a 699)), (2, .ref (bm 0)), (3, .ref ao), (4, .int (nI i))]) (k78 : lK78 p l e s m b below meth c D t a ao bm i (cells + 1) (slots + 6)) :
    W p l e room_1 s m #[Value.ref b] below meth c H locs cells slots (lw_Z below #[Value.ref b] s) (F0 m 643 ls []) := by
  obtain ⟨hx, hb, hr, hml, hown, hts0, hX, hbl, hlocks, hgv⟩ := id C0
  have hts := lw_hts hts0
  have hbA : ¬ lwA s b := Nat.not_le.mpr hbl
  have hF : CallFix p m c code 7 s #[Value.ref b] (Cond.initialized R_Lw :: gBig) R_Lw := ⟨hx, hb, hml, hown, hts⟩
  obtain ⟨nH, k, C1, f1, r, M1, hnH, hq, hm, hk0, hv, hR1⟩ := L_cost l D t a ao bm f  hl0 hR
  refine lv_aload_n hx hb d_law_643 rfl (lv_at hl 1 rfl) ?_
  refine lv_aload_n hx hb d_law_644 rfl (lv_at hl 3 rfl) ?_
  refine h_sw (k := 2) (As := [.ref (a 699), .ref ao]) (rest := []) (own := R_Lw) (index := 101) (w1 := wLw t a ao C f) (w2 := wMd t bm M) hF hq (gIn k_573 (by decide +kernel)) (gIn k_574 (by decide +kernel)) (gIn k_0 (by decide +kernel)) (gIn k_575 (by decide +kernel)) (by decide +kernel) ⟨by show nH + 1 ≤ 2048; omega, by show 8 + (3 + 11) + 40 * nH ≤ 84000; omega⟩ rfl hK hP hD hS (hxo.kept hS.2.1) hno hl.1 rfl (Nat.le_of_ble_eq_true rfl) hc d_law_645 (fun r_1 u_1 H locs q_1 hP hD hS _ => ?_)
  rw [q_1.2] at hP hD
  rw [q_1.1]
  have hP := gSwapP (w1 := wLw t a ao C1 f1) (w2 := wMd t bm M) hP
  have hD := gSwapD (w1 := wLw t a ao C1 f1) (w2 := wMd t bm M) hD
  refine lv_istore (lv' := [(5, .int k), (0, .ref b), (1, .ref (a 699)), (2, .ref (bm 0)), (3, .ref ao), (4, .int (nI i))]) hx hb d_law_648 hl (by decide) rfl (fun ls hl => ?_)
  refine lv_aload_n hx hb d_law_650 rfl (lv_at hl 3 rfl) ?_
  refine g_viS (k := 0) (As := []) (rest := []) (own := R_Lw) (C := R_Md) (index := 104) (w1 := wMd t bm M) (w2 := wLw t a ao C1 f1) hF hm (gg_Lw_104 _) (by decide +kernel) ⟨Nat.le_of_ble_eq_true rfl, Nat.le_of_ble_eq_true rfl⟩ rfl (va_recv hK.1 (gSplit hP).1 (ci := 7) (q0 := 0) rfl (wMd_0 t bm M)) hK hP hD hS hl.1 rfl (Nat.le_of_ble_eq_true rfl) hc d_law_651 (fun r_2 u_2 H locs q_2 hP hD hS => ?_)
  rw [q_2.2] at hP hD
  rw [q_2.1]
  refine lv_istore (lv' := [(6, .int r), (5, .int k), (0, .ref b), (1, .ref (a 699)), (2, .ref (bm 0)), (3, .ref ao), (4, .int (nI i))]) hx hb d_law_654 hl (by decide) rfl (fun ls hl => ?_)
  refine lv_aload_n hx hb d_law_656 rfl (lv_at hl 4 rfl) ?_
  refine g_viS (k := 0) (As := []) (rest := []) (own := R_Lw) (C := R_Md) (index := 77) (w1 := wMd t bm M1) (w2 := wLw t a ao C1 f1) hF (c_Md_thrown l D t bm M1) (gg_Lw_77 _) (by decide +kernel) ⟨Nat.le_of_ble_eq_true rfl, Nat.le_of_ble_eq_true rfl⟩ rfl (va_recv hK.1 (gSplit hP).1 (ci := 7) (q0 := 0) rfl (wMd_0 t bm M1)) hK hP hD hS hl.1 rfl (Nat.le_of_ble_eq_true rfl) hc d_law_657 (fun r_3 u_3 H locs q_3 hP hD hS => ?_)
  rw [q_3.2] at hP hD
  rw [q_3.1]
  have hP := gSwapP (w1 := wMd t bm M1) (w2 := wLw t a ao C1 f1) hP
  have hD := gSwapD (w1 := wMd t bm M1) (w2 := wLw t a ao C1 f1) hD
  refine lv_iload hx hb d_law_660 (lv_at hl 1 rfl) ?_
  refine lv_icmp_eq (tgt := 667) hx hb d_law_662 (by decide) (fun c_1 => ?_) (fun c_1 => absurd hk0 c_1)
  refine lv_iload hx hb d_law_667 (lv_at hl 1 rfl) ?_
  refine lv_if_ne (tgt := 684) hx hb d_law_669 (by decide) (fun c_2 => ?_) (fun c_2 => ?_)
  · refine lv_goto (tgt := 1078) hx hb d_law_684 (by decide) ?_
    exact k78 C1 M1 f1 H locs ls hR1 hP hD hS (lv_sub hl [2, 3, 4, 5, 6] rfl)
  · have hv := hv c_2
    refine lv_aload_n hx hb d_law_672 rfl (lv_at hl 5 rfl) ?_
    refine lv_iconst (v := 0) hx hb d_law_673 (by decide) ?_
    refine va_lald hx hb hK.1 hP 67 3 (a := ao) (cA := t 3) (n := 1) (f := f1) rfl rfl (i := 0) (by unfold vp_in; decide) d_law_674 ?_
    refine lv_iload hx hb d_law_675 (lv_at hl 0 rfl) ?_
    refine lv_i2l (v := r.toInt64) hx hb d_law_677 rfl ?_
    refine g_lcmp0 hx hb (hv) d_law_678 ?_
    refine lv_if_eq (tgt := 684) hx hb d_law_679 (by decide) (fun c_3 => ?_) (fun c_3 => absurd rfl c_3)
    refine lv_goto (tgt := 1078) hx hb d_law_684 (by decide) ?_
    exact k78 C1 M1 f1 H locs ls hR1 hP hD hS (lv_sub hl [2, 3, 4, 5, 6] rfl)
set_option maxHeartbeats 4000000 in
set_option maxRecDepth 100000 in
theorem law_manual {p : Program} {e : Env} {s : State} {m : MethodId} {below : List Frame} {meth : Method} {c : Code} (l : Launch) (hl0 : l.stackTraces = false) {b L : Nat} {xs : Nat → Int32} (hL : L ≤ 3073) (C0 : lw_At p s m meth c b L xs) {D : va_G} {t : Nat → ClassId} (hK : gK D t s) (hxo : xOK (lwA s) s s.heap) (hno : xNo s) {a : Nat → Nat} {ao : Nat} {bm : Nat → Nat} {i : Nat} (hi : i + 6 ≤ L) {C M : Nat → Nat → Int32} {f : Nat → Int64} {H : Heap} {locs : List Loc} {ls : Array Slot} {cells slots : Nat} (hc : cells + 1 ≤ room_1.cells ∧ slots + 6 ≤ room_1.slots) (hR : Rel C M) (hP : va_P D gCl (wLw t a ao C f ++ wMd t bm M) H) (hD : va_D (lwA s) (wLw t a ao C f ++ wMd t bm M)) (hS : va_S (lwA s) s.heap H locs) (hl : lv_has ls 7 [(0, .ref b), (1, .ref (a 699)), (2, .ref (bm 0)), (3, .ref ao), (4, .int (nI i))]) (k78 : lK78 p l e s m b below meth c D t a ao bm i (cells + 1) (slots + 6)) :
    W p l e room_1 s m #[Value.ref b] below meth c H locs cells slots (lw_Z below #[Value.ref b] s) (F0 m 687 ls []) := by
  obtain ⟨hx, hb, hr, hml, hown, hts0, hX, hbl, hlocks, hgv⟩ := id C0
  have hts := lw_hts hts0
  have hbA : ¬ lwA s b := Nat.not_le.mpr hbl
  have hF : CallFix p m c code 7 s #[Value.ref b] (Cond.initialized R_Lw :: gBig) R_Lw := ⟨hx, hb, hml, hown, hts⟩
  obtain ⟨nH, k, C1, f1, r, M1, hnH, hq, hm, hk0, hv, hR1⟩ := L_manual l D t a ao bm f (xs (nI i + 1).toNatClampNeg) hl0 hR
  refine lv_aload_n hx hb d_law_687 rfl (lv_at hl 1 rfl) ?_
  refine lv_aload_n hx hb d_law_688 rfl (lv_at hl 0 rfl) ?_
  refine lv_iload hx hb d_law_689 (lv_at hl 4 rfl) ?_
  refine lv_iconst (v := 1) hx hb d_law_691 (by decide) ?_
  refine lv_iadd hx hb d_law_692 ?_
  refine va_sld hx hb hX hbl hbA hS (sc_in (k := 1) hi hL (by decide)) d_law_693 ?_
  refine lv_aload_n hx hb d_law_694 rfl (lv_at hl 3 rfl) ?_
  refine h_sw (k := 3) (As := [.ref (a 699), .int (xs (nI i + 1).toNatClampNeg), .ref ao]) (rest := []) (own := R_Lw) (index := 105) (w1 := wLw t a ao C f) (w2 := wMd t bm M) hF hq (gIn k_580 (by decide +kernel)) (gIn k_581 (by decide +kernel)) (gIn k_0 (by decide +kernel)) (gIn k_582 (by decide +kernel)) (by decide +kernel) ⟨by show nH + 1 ≤ 2048; omega, by show 8 + (4 + 11) + 40 * nH ≤ 84000; omega⟩ rfl hK hP hD hS (hxo.kept hS.2.1) hno hl.1 rfl (Nat.le_of_ble_eq_true rfl) hc d_law_695 (fun r_1 u_1 H locs q_1 hP hD hS _ => ?_)
  rw [q_1.2] at hP hD
  rw [q_1.1]
  have hP := gSwapP (w1 := wLw t a ao C1 f1) (w2 := wMd t bm M) hP
  have hD := gSwapD (w1 := wLw t a ao C1 f1) (w2 := wMd t bm M) hD
  refine lv_istore (lv' := [(5, .int k), (0, .ref b), (1, .ref (a 699)), (2, .ref (bm 0)), (3, .ref ao), (4, .int (nI i))]) hx hb d_law_698 hl (by decide) rfl (fun ls hl => ?_)
  refine lv_aload_n hx hb d_law_700 rfl (lv_at hl 3 rfl) ?_
  refine lv_aload_n hx hb d_law_701 rfl (lv_at hl 1 rfl) ?_
  refine lv_iload hx hb d_law_702 (lv_at hl 5 rfl) ?_
  refine lv_iconst (v := 1) hx hb d_law_704 (by decide) ?_
  refine lv_iadd hx hb d_law_705 ?_
  refine va_sld hx hb hX hbl hbA hS (sc_in (k := 1) hi hL (by decide)) d_law_706 ?_
  refine g_viS (k := 1) (As := [.int (xs (nI i + 1).toNatClampNeg)]) (rest := []) (own := R_Lw) (C := R_Md) (index := 108) (w1 := wMd t bm M) (w2 := wLw t a ao C1 f1) hF hm (gg_Lw_108 _) (by decide +kernel) ⟨Nat.le_of_ble_eq_true rfl, Nat.le_of_ble_eq_true rfl⟩ rfl (va_recv hK.1 (gSplit hP).1 (ci := 7) (q0 := 0) rfl (wMd_0 t bm M)) hK hP hD hS hl.1 rfl (Nat.le_of_ble_eq_true rfl) hc d_law_707 (fun r_2 u_2 H locs q_2 hP hD hS => ?_)
  rw [q_2.2] at hP hD
  rw [q_2.1]
  refine lv_istore (lv' := [(6, .int r), (5, .int k), (0, .ref b), (1, .ref (a 699)), (2, .ref (bm 0)), (3, .ref ao), (4, .int (nI i))]) hx hb d_law_710 hl (by decide) rfl (fun ls hl => ?_)
  refine lv_aload_n hx hb d_law_712 rfl (lv_at hl 4 rfl) ?_
  refine g_viS (k := 0) (As := []) (rest := []) (own := R_Lw) (C := R_Md) (index := 77) (w1 := wMd t bm M1) (w2 := wLw t a ao C1 f1) hF (c_Md_thrown l D t bm M1) (gg_Lw_77 _) (by decide +kernel) ⟨Nat.le_of_ble_eq_true rfl, Nat.le_of_ble_eq_true rfl⟩ rfl (va_recv hK.1 (gSplit hP).1 (ci := 7) (q0 := 0) rfl (wMd_0 t bm M1)) hK hP hD hS hl.1 rfl (Nat.le_of_ble_eq_true rfl) hc d_law_713 (fun r_3 u_3 H locs q_3 hP hD hS => ?_)
  rw [q_3.2] at hP hD
  rw [q_3.1]
  have hP := gSwapP (w1 := wMd t bm M1) (w2 := wLw t a ao C1 f1) hP
  have hD := gSwapD (w1 := wMd t bm M1) (w2 := wLw t a ao C1 f1) hD
  refine lv_iload hx hb d_law_716 (lv_at hl 1 rfl) ?_
  refine lv_icmp_eq (tgt := 723) hx hb d_law_718 (by decide) (fun c_1 => ?_) (fun c_1 => absurd hk0 c_1)
  refine lv_iload hx hb d_law_723 (lv_at hl 1 rfl) ?_
  refine lv_if_ne (tgt := 740) hx hb d_law_725 (by decide) (fun c_2 => ?_) (fun c_2 => ?_)
  · refine lv_goto (tgt := 1078) hx hb d_law_740 (by decide) ?_
    exact k78 C1 M1 f1 H locs ls hR1 hP hD hS (lv_sub hl [2, 3, 4, 5, 6] rfl)
  · have hv := hv c_2
    refine lv_aload_n hx hb d_law_728 rfl (lv_at hl 5 rfl) ?_
    refine lv_iconst (v := 0) hx hb d_law_729 (by decide) ?_
    refine va_lald hx hb hK.1 hP 67 3 (a := ao) (cA := t 3) (n := 1) (f := f1) rfl rfl (i := 0) (by unfold vp_in; decide) d_law_730 ?_
    refine lv_iload hx hb d_law_731 (lv_at hl 0 rfl) ?_
    refine lv_i2l (v := r.toInt64) hx hb d_law_733 rfl ?_
    refine g_lcmp0 hx hb (hv) d_law_734 ?_
    refine lv_if_eq (tgt := 740) hx hb d_law_735 (by decide) (fun c_3 => ?_) (fun c_3 => absurd rfl c_3)
    refine lv_goto (tgt := 1078) hx hb d_law_740 (by decide) ?_
    exact k78 C1 M1 f1 H locs ls hR1 hP hD hS (lv_sub hl [2, 3, 4, 5, 6] rfl)
set_option maxHeartbeats 4000000 in
set_option maxRecDepth 100000 in
theorem law_bag {p : Program} {e : Env} {s : State} {m : MethodId} {below : List Frame} {meth : Method} {c : Code} (l : Launch) (hl0 : l.stackTraces = false) {b L : Nat} {xs : Nat → Int32} (hL : L ≤ 3073) (C0 : lw_At p s m meth c b L xs) {D : va_G} {t : Nat → ClassId} (hK : gK D t s) (hxo : xOK (lwA s) s s.heap) (hno : xNo s) {a : Nat → Nat} {ao : Nat} {bm : Nat → Nat} {i : Nat} (hi : i + 6 ≤ L) {C M : Nat → Nat → Int32} {f : Nat → Int64} {H : Heap} {locs : List Loc} {ls : Array Slot} {cells slots : Nat} (hc : cells + 1 ≤ room_1.cells ∧ slots + 6 ≤ room_1.slots) (hR : Rel C M) (hP : va_P D gCl (wLw t a ao C f ++ wMd t bm M) H) (hD : va_D (lwA s) (wLw t a ao C f ++ wMd t bm M)) (hS : va_S (lwA s) s.heap H locs) (hl : lv_has ls 7 [(0, .ref b), (1, .ref (a 699)), (2, .ref (bm 0)), (3, .ref ao), (4, .int (nI i))]) (k78 : lK78 p l e s m b below meth c D t a ao bm i (cells + 1) (slots + 6)) :
    W p l e room_1 s m #[Value.ref b] below meth c H locs cells slots (lw_Z below #[Value.ref b] s) (F0 m 743 ls []) := by
  obtain ⟨hx, hb, hr, hml, hown, hts0, hX, hbl, hlocks, hgv⟩ := id C0
  have hts := lw_hts hts0
  have hbA : ¬ lwA s b := Nat.not_le.mpr hbl
  have hF : CallFix p m c code 7 s #[Value.ref b] (Cond.initialized R_Lw :: gBig) R_Lw := ⟨hx, hb, hml, hown, hts⟩
  obtain ⟨nH, k, C1, f1, r, M1, hnH, hq, hm, hk0, hv, hR1⟩ := L_bag l D t a ao bm f  hl0 hR
  refine lv_aload_n hx hb d_law_743 rfl (lv_at hl 1 rfl) ?_
  refine lv_aload_n hx hb d_law_744 rfl (lv_at hl 3 rfl) ?_
  refine h_sw (k := 2) (As := [.ref (a 699), .ref ao]) (rest := []) (own := R_Lw) (index := 109) (w1 := wLw t a ao C f) (w2 := wMd t bm M) hF hq (gIn k_588 (by decide +kernel)) (gIn k_589 (by decide +kernel)) (gIn k_0 (by decide +kernel)) (gIn k_590 (by decide +kernel)) (by decide +kernel) ⟨by show nH + 1 ≤ 2048; omega, by show 8 + (3 + 11) + 40 * nH ≤ 84000; omega⟩ rfl hK hP hD hS (hxo.kept hS.2.1) hno hl.1 rfl (Nat.le_of_ble_eq_true rfl) hc d_law_745 (fun r_1 u_1 H locs q_1 hP hD hS _ => ?_)
  rw [q_1.2] at hP hD
  rw [q_1.1]
  have hP := gSwapP (w1 := wLw t a ao C1 f1) (w2 := wMd t bm M) hP
  have hD := gSwapD (w1 := wLw t a ao C1 f1) (w2 := wMd t bm M) hD
  refine lv_istore (lv' := [(5, .int k), (0, .ref b), (1, .ref (a 699)), (2, .ref (bm 0)), (3, .ref ao), (4, .int (nI i))]) hx hb d_law_748 hl (by decide) rfl (fun ls hl => ?_)
  refine lv_aload_n hx hb d_law_750 rfl (lv_at hl 3 rfl) ?_
  refine g_viS (k := 0) (As := []) (rest := []) (own := R_Lw) (C := R_Md) (index := 111) (w1 := wMd t bm M) (w2 := wLw t a ao C1 f1) hF hm (gg_Lw_111 _) (by decide +kernel) ⟨Nat.le_of_ble_eq_true rfl, Nat.le_of_ble_eq_true rfl⟩ rfl (va_recv hK.1 (gSplit hP).1 (ci := 7) (q0 := 0) rfl (wMd_0 t bm M)) hK hP hD hS hl.1 rfl (Nat.le_of_ble_eq_true rfl) hc d_law_751 (fun r_2 u_2 H locs q_2 hP hD hS => ?_)
  rw [q_2.2] at hP hD
  rw [q_2.1]
  refine lv_istore (lv' := [(6, .int r), (5, .int k), (0, .ref b), (1, .ref (a 699)), (2, .ref (bm 0)), (3, .ref ao), (4, .int (nI i))]) hx hb d_law_754 hl (by decide) rfl (fun ls hl => ?_)
  refine lv_aload_n hx hb d_law_756 rfl (lv_at hl 4 rfl) ?_
  refine g_viS (k := 0) (As := []) (rest := []) (own := R_Lw) (C := R_Md) (index := 77) (w1 := wMd t bm M1) (w2 := wLw t a ao C1 f1) hF (c_Md_thrown l D t bm M1) (gg_Lw_77 _) (by decide +kernel) ⟨Nat.le_of_ble_eq_true rfl, Nat.le_of_ble_eq_true rfl⟩ rfl (va_recv hK.1 (gSplit hP).1 (ci := 7) (q0 := 0) rfl (wMd_0 t bm M1)) hK hP hD hS hl.1 rfl (Nat.le_of_ble_eq_true rfl) hc d_law_757 (fun r_3 u_3 H locs q_3 hP hD hS => ?_)
  rw [q_3.2] at hP hD
  rw [q_3.1]
  have hP := gSwapP (w1 := wMd t bm M1) (w2 := wLw t a ao C1 f1) hP
  have hD := gSwapD (w1 := wMd t bm M1) (w2 := wLw t a ao C1 f1) hD
  refine lv_iload hx hb d_law_760 (lv_at hl 1 rfl) ?_
  refine lv_icmp_eq (tgt := 767) hx hb d_law_762 (by decide) (fun c_1 => ?_) (fun c_1 => absurd hk0 c_1)
  refine lv_iload hx hb d_law_767 (lv_at hl 1 rfl) ?_
  refine lv_if_ne (tgt := 784) hx hb d_law_769 (by decide) (fun c_2 => ?_) (fun c_2 => ?_)
  · refine lv_goto (tgt := 1078) hx hb d_law_784 (by decide) ?_
    exact k78 C1 M1 f1 H locs ls hR1 hP hD hS (lv_sub hl [2, 3, 4, 5, 6] rfl)
  · have hv := hv c_2
    refine lv_aload_n hx hb d_law_772 rfl (lv_at hl 5 rfl) ?_
    refine lv_iconst (v := 0) hx hb d_law_773 (by decide) ?_
    refine va_lald hx hb hK.1 hP 67 3 (a := ao) (cA := t 3) (n := 1) (f := f1) rfl rfl (i := 0) (by unfold vp_in; decide) d_law_774 ?_
    refine lv_iload hx hb d_law_775 (lv_at hl 0 rfl) ?_
    refine lv_i2l (v := r.toInt64) hx hb d_law_777 rfl ?_
    refine g_lcmp0 hx hb (hv) d_law_778 ?_
    refine lv_if_eq (tgt := 784) hx hb d_law_779 (by decide) (fun c_3 => ?_) (fun c_3 => absurd rfl c_3)
    refine lv_goto (tgt := 1078) hx hb d_law_784 (by decide) ?_
    exact k78 C1 M1 f1 H locs ls hR1 hP hD hS (lv_sub hl [2, 3, 4, 5, 6] rfl)
set_option maxHeartbeats 4000000 in
set_option maxRecDepth 100000 in
theorem law_into {p : Program} {e : Env} {s : State} {m : MethodId} {below : List Frame} {meth : Method} {c : Code} (l : Launch) (hl0 : l.stackTraces = false) {b L : Nat} {xs : Nat → Int32} (hL : L ≤ 3073) (C0 : lw_At p s m meth c b L xs) {D : va_G} {t : Nat → ClassId} (hK : gK D t s) (hxo : xOK (lwA s) s s.heap) (hno : xNo s) {a : Nat → Nat} {ao : Nat} {bm : Nat → Nat} {i : Nat} (hi : i + 6 ≤ L) {C M : Nat → Nat → Int32} {f : Nat → Int64} {H : Heap} {locs : List Loc} {ls : Array Slot} {cells slots : Nat} (hc : cells + 1 ≤ room_1.cells ∧ slots + 6 ≤ room_1.slots) (hR : Rel C M) (hP : va_P D gCl (wLw t a ao C f ++ wMd t bm M) H) (hD : va_D (lwA s) (wLw t a ao C f ++ wMd t bm M)) (hS : va_S (lwA s) s.heap H locs) (hl : lv_has ls 7 [(0, .ref b), (1, .ref (a 699)), (2, .ref (bm 0)), (3, .ref ao), (4, .int (nI i))]) (k78 : lK78 p l e s m b below meth c D t a ao bm i (cells + 1) (slots + 6)) :
    W p l e room_1 s m #[Value.ref b] below meth c H locs cells slots (lw_Z below #[Value.ref b] s) (F0 m 787 ls []) := by
  obtain ⟨hx, hb, hr, hml, hown, hts0, hX, hbl, hlocks, hgv⟩ := id C0
  have hts := lw_hts hts0
  have hbA : ¬ lwA s b := Nat.not_le.mpr hbl
  have hF : CallFix p m c code 7 s #[Value.ref b] (Cond.initialized R_Lw :: gBig) R_Lw := ⟨hx, hb, hml, hown, hts⟩
  obtain ⟨nH, k, C1, f1, r, M1, hnH, hq, hm, hk0, hv, hR1⟩ := L_into l D t a ao bm f (xs (nI i + 1).toNatClampNeg) (xs (nI i + 2).toNatClampNeg) (xs (nI i + 3).toNatClampNeg) (xs (nI i + 4).toNatClampNeg) hl0 hR
  refine lv_aload_n hx hb d_law_787 rfl (lv_at hl 1 rfl) ?_
  refine lv_aload_n hx hb d_law_788 rfl (lv_at hl 0 rfl) ?_
  refine lv_iload hx hb d_law_789 (lv_at hl 4 rfl) ?_
  refine lv_iconst (v := 1) hx hb d_law_791 (by decide) ?_
  refine lv_iadd hx hb d_law_792 ?_
  refine va_sld hx hb hX hbl hbA hS (sc_in (k := 1) hi hL (by decide)) d_law_793 ?_
  refine lv_aload_n hx hb d_law_794 rfl (lv_at hl 0 rfl) ?_
  refine lv_iload hx hb d_law_795 (lv_at hl 4 rfl) ?_
  refine lv_iconst (v := 2) hx hb d_law_797 (by decide) ?_
  refine lv_iadd hx hb d_law_798 ?_
  refine va_sld hx hb hX hbl hbA hS (sc_in (k := 2) hi hL (by decide)) d_law_799 ?_
  refine lv_aload_n hx hb d_law_800 rfl (lv_at hl 0 rfl) ?_
  refine lv_iload hx hb d_law_801 (lv_at hl 4 rfl) ?_
  refine lv_iconst (v := 3) hx hb d_law_803 (by decide) ?_
  refine lv_iadd hx hb d_law_804 ?_
  refine va_sld hx hb hX hbl hbA hS (sc_in (k := 3) hi hL (by decide)) d_law_805 ?_
  refine lv_aload_n hx hb d_law_806 rfl (lv_at hl 0 rfl) ?_
  refine lv_iload hx hb d_law_807 (lv_at hl 4 rfl) ?_
  refine lv_iconst (v := 4) hx hb d_law_809 (by decide) ?_
  refine lv_iadd hx hb d_law_810 ?_
  refine va_sld hx hb hX hbl hbA hS (sc_in (k := 4) hi hL (by decide)) d_law_811 ?_
  refine lv_aload_n hx hb d_law_812 rfl (lv_at hl 3 rfl) ?_
  refine h_sw (k := 6) (As := [.ref (a 699), .int (xs (nI i + 1).toNatClampNeg), .int (xs (nI i + 2).toNatClampNeg), .int (xs (nI i + 3).toNatClampNeg), .int (xs (nI i + 4).toNatClampNeg), .ref ao]) (rest := []) (own := R_Lw) (index := 112) (w1 := wLw t a ao C f) (w2 := wMd t bm M) hF hq (gIn k_600 (by decide +kernel)) (gIn k_601 (by decide +kernel)) (gIn k_0 (by decide +kernel)) (gIn k_602 (by decide +kernel)) (by decide +kernel) ⟨by show nH + 1 ≤ 2048; omega, by show 8 + (7 + 11) + 40 * nH ≤ 84000; omega⟩ rfl hK hP hD hS (hxo.kept hS.2.1) hno hl.1 rfl (Nat.le_of_ble_eq_true rfl) hc d_law_813 (fun r_1 u_1 H locs q_1 hP hD hS _ => ?_)
  rw [q_1.2] at hP hD
  rw [q_1.1]
  have hP := gSwapP (w1 := wLw t a ao C1 f1) (w2 := wMd t bm M) hP
  have hD := gSwapD (w1 := wLw t a ao C1 f1) (w2 := wMd t bm M) hD
  refine lv_istore (lv' := [(5, .int k), (0, .ref b), (1, .ref (a 699)), (2, .ref (bm 0)), (3, .ref ao), (4, .int (nI i))]) hx hb d_law_816 hl (by decide) rfl (fun ls hl => ?_)
  refine lv_aload_n hx hb d_law_818 rfl (lv_at hl 3 rfl) ?_
  refine lv_aload_n hx hb d_law_819 rfl (lv_at hl 1 rfl) ?_
  refine lv_iload hx hb d_law_820 (lv_at hl 5 rfl) ?_
  refine lv_iconst (v := 1) hx hb d_law_822 (by decide) ?_
  refine lv_iadd hx hb d_law_823 ?_
  refine va_sld hx hb hX hbl hbA hS (sc_in (k := 1) hi hL (by decide)) d_law_824 ?_
  refine lv_aload_n hx hb d_law_825 rfl (lv_at hl 1 rfl) ?_
  refine lv_iload hx hb d_law_826 (lv_at hl 5 rfl) ?_
  refine lv_iconst (v := 2) hx hb d_law_828 (by decide) ?_
  refine lv_iadd hx hb d_law_829 ?_
  refine va_sld hx hb hX hbl hbA hS (sc_in (k := 2) hi hL (by decide)) d_law_830 ?_
  refine lv_aload_n hx hb d_law_831 rfl (lv_at hl 1 rfl) ?_
  refine lv_iload hx hb d_law_832 (lv_at hl 5 rfl) ?_
  refine lv_iconst (v := 3) hx hb d_law_834 (by decide) ?_
  refine lv_iadd hx hb d_law_835 ?_
  refine va_sld hx hb hX hbl hbA hS (sc_in (k := 3) hi hL (by decide)) d_law_836 ?_
  refine lv_aload_n hx hb d_law_837 rfl (lv_at hl 1 rfl) ?_
  refine lv_iload hx hb d_law_838 (lv_at hl 5 rfl) ?_
  refine lv_iconst (v := 4) hx hb d_law_840 (by decide) ?_
  refine lv_iadd hx hb d_law_841 ?_
  refine va_sld hx hb hX hbl hbA hS (sc_in (k := 4) hi hL (by decide)) d_law_842 ?_
  refine g_viS (k := 4) (As := [.int (xs (nI i + 1).toNatClampNeg), .int (xs (nI i + 2).toNatClampNeg), .int (xs (nI i + 3).toNatClampNeg), .int (xs (nI i + 4).toNatClampNeg)]) (rest := []) (own := R_Lw) (C := R_Md) (index := 115) (w1 := wMd t bm M) (w2 := wLw t a ao C1 f1) hF hm (gg_Lw_115 _) (by decide +kernel) ⟨Nat.le_of_ble_eq_true rfl, Nat.le_of_ble_eq_true rfl⟩ rfl (va_recv hK.1 (gSplit hP).1 (ci := 7) (q0 := 0) rfl (wMd_0 t bm M)) hK hP hD hS hl.1 rfl (Nat.le_of_ble_eq_true rfl) hc d_law_843 (fun r_2 u_2 H locs q_2 hP hD hS => ?_)
  rw [q_2.2] at hP hD
  rw [q_2.1]
  refine lv_istore (lv' := [(6, .int r), (5, .int k), (0, .ref b), (1, .ref (a 699)), (2, .ref (bm 0)), (3, .ref ao), (4, .int (nI i))]) hx hb d_law_846 hl (by decide) rfl (fun ls hl => ?_)
  refine lv_aload_n hx hb d_law_848 rfl (lv_at hl 4 rfl) ?_
  refine g_viS (k := 0) (As := []) (rest := []) (own := R_Lw) (C := R_Md) (index := 77) (w1 := wMd t bm M1) (w2 := wLw t a ao C1 f1) hF (c_Md_thrown l D t bm M1) (gg_Lw_77 _) (by decide +kernel) ⟨Nat.le_of_ble_eq_true rfl, Nat.le_of_ble_eq_true rfl⟩ rfl (va_recv hK.1 (gSplit hP).1 (ci := 7) (q0 := 0) rfl (wMd_0 t bm M1)) hK hP hD hS hl.1 rfl (Nat.le_of_ble_eq_true rfl) hc d_law_849 (fun r_3 u_3 H locs q_3 hP hD hS => ?_)
  rw [q_3.2] at hP hD
  rw [q_3.1]
  have hP := gSwapP (w1 := wMd t bm M1) (w2 := wLw t a ao C1 f1) hP
  have hD := gSwapD (w1 := wMd t bm M1) (w2 := wLw t a ao C1 f1) hD
  refine lv_iload hx hb d_law_852 (lv_at hl 1 rfl) ?_
  refine lv_icmp_eq (tgt := 859) hx hb d_law_854 (by decide) (fun c_1 => ?_) (fun c_1 => absurd hk0 c_1)
  refine lv_iload hx hb d_law_859 (lv_at hl 1 rfl) ?_
  refine lv_if_ne (tgt := 876) hx hb d_law_861 (by decide) (fun c_2 => ?_) (fun c_2 => ?_)
  · refine lv_goto (tgt := 1078) hx hb d_law_876 (by decide) ?_
    exact k78 C1 M1 f1 H locs ls hR1 hP hD hS (lv_sub hl [2, 3, 4, 5, 6] rfl)
  · have hv := hv c_2
    refine lv_aload_n hx hb d_law_864 rfl (lv_at hl 5 rfl) ?_
    refine lv_iconst (v := 0) hx hb d_law_865 (by decide) ?_
    refine va_lald hx hb hK.1 hP 67 3 (a := ao) (cA := t 3) (n := 1) (f := f1) rfl rfl (i := 0) (by unfold vp_in; decide) d_law_866 ?_
    refine lv_iload hx hb d_law_867 (lv_at hl 0 rfl) ?_
    refine lv_i2l (v := r.toInt64) hx hb d_law_869 rfl ?_
    refine g_lcmp0 hx hb (hv) d_law_870 ?_
    refine lv_if_eq (tgt := 876) hx hb d_law_871 (by decide) (fun c_3 => ?_) (fun c_3 => absurd rfl c_3)
    refine lv_goto (tgt := 1078) hx hb d_law_876 (by decide) ?_
    exact k78 C1 M1 f1 H locs ls hR1 hP hD hS (lv_sub hl [2, 3, 4, 5, 6] rfl)
set_option maxHeartbeats 4000000 in
set_option maxRecDepth 100000 in
theorem law_counted {p : Program} {e : Env} {s : State} {m : MethodId} {below : List Frame} {meth : Method} {c : Code} (l : Launch) (hl0 : l.stackTraces = false) {b L : Nat} {xs : Nat → Int32} (hL : L ≤ 3073) (C0 : lw_At p s m meth c b L xs) {D : va_G} {t : Nat → ClassId} (hK : gK D t s) (hxo : xOK (lwA s) s s.heap) (hno : xNo s) {a : Nat → Nat} {ao : Nat} {bm : Nat → Nat} {i : Nat} (hi : i + 6 ≤ L) {C M : Nat → Nat → Int32} {f : Nat → Int64} {H : Heap} {locs : List Loc} {ls : Array Slot} {cells slots : Nat} (hc : cells + 1 ≤ room_1.cells ∧ slots + 6 ≤ room_1.slots) (hR : Rel C M) (hP : va_P D gCl (wLw t a ao C f ++ wMd t bm M) H) (hD : va_D (lwA s) (wLw t a ao C f ++ wMd t bm M)) (hS : va_S (lwA s) s.heap H locs) (hl : lv_has ls 7 [(0, .ref b), (1, .ref (a 699)), (2, .ref (bm 0)), (3, .ref ao), (4, .int (nI i))]) (k78 : lK78 p l e s m b below meth c D t a ao bm i (cells + 1) (slots + 6)) :
    W p l e room_1 s m #[Value.ref b] below meth c H locs cells slots (lw_Z below #[Value.ref b] s) (F0 m 879 ls []) := by
  obtain ⟨hx, hb, hr, hml, hown, hts0, hX, hbl, hlocks, hgv⟩ := id C0
  have hts := lw_hts hts0
  have hbA : ¬ lwA s b := Nat.not_le.mpr hbl
  have hF : CallFix p m c code 7 s #[Value.ref b] (Cond.initialized R_Lw :: gBig) R_Lw := ⟨hx, hb, hml, hown, hts⟩
  obtain ⟨nH, k, C1, f1, r, M1, hnH, hq, hm, hk0, hv, hR1⟩ := L_counted l D t a ao bm f (xs (nI i + 1).toNatClampNeg) (xs (nI i + 2).toNatClampNeg) hl0 hR
  refine lv_aload_n hx hb d_law_879 rfl (lv_at hl 1 rfl) ?_
  refine lv_aload_n hx hb d_law_880 rfl (lv_at hl 0 rfl) ?_
  refine lv_iload hx hb d_law_881 (lv_at hl 4 rfl) ?_
  refine lv_iconst (v := 1) hx hb d_law_883 (by decide) ?_
  refine lv_iadd hx hb d_law_884 ?_
  refine va_sld hx hb hX hbl hbA hS (sc_in (k := 1) hi hL (by decide)) d_law_885 ?_
  refine lv_aload_n hx hb d_law_886 rfl (lv_at hl 0 rfl) ?_
  refine lv_iload hx hb d_law_887 (lv_at hl 4 rfl) ?_
  refine lv_iconst (v := 2) hx hb d_law_889 (by decide) ?_
  refine lv_iadd hx hb d_law_890 ?_
  refine va_sld hx hb hX hbl hbA hS (sc_in (k := 2) hi hL (by decide)) d_law_891 ?_
  refine lv_aload_n hx hb d_law_892 rfl (lv_at hl 3 rfl) ?_
  refine h_sw (k := 4) (As := [.ref (a 699), .int (xs (nI i + 1).toNatClampNeg), .int (xs (nI i + 2).toNatClampNeg), .ref ao]) (rest := []) (own := R_Lw) (index := 116) (w1 := wLw t a ao C f) (w2 := wMd t bm M) hF hq (gIn k_615 (by decide +kernel)) (gIn k_616 (by decide +kernel)) (gIn k_0 (by decide +kernel)) (gIn k_617 (by decide +kernel)) (by decide +kernel) ⟨by show nH + 1 ≤ 2048; omega, by show 8 + (5 + 11) + 40 * nH ≤ 84000; omega⟩ rfl hK hP hD hS (hxo.kept hS.2.1) hno hl.1 rfl (Nat.le_of_ble_eq_true rfl) hc d_law_893 (fun r_1 u_1 H locs q_1 hP hD hS _ => ?_)
  rw [q_1.2] at hP hD
  rw [q_1.1]
  have hP := gSwapP (w1 := wLw t a ao C1 f1) (w2 := wMd t bm M) hP
  have hD := gSwapD (w1 := wLw t a ao C1 f1) (w2 := wMd t bm M) hD
  refine lv_istore (lv' := [(5, .int k), (0, .ref b), (1, .ref (a 699)), (2, .ref (bm 0)), (3, .ref ao), (4, .int (nI i))]) hx hb d_law_896 hl (by decide) rfl (fun ls hl => ?_)
  refine lv_aload_n hx hb d_law_898 rfl (lv_at hl 3 rfl) ?_
  refine lv_aload_n hx hb d_law_899 rfl (lv_at hl 1 rfl) ?_
  refine lv_iload hx hb d_law_900 (lv_at hl 5 rfl) ?_
  refine lv_iconst (v := 1) hx hb d_law_902 (by decide) ?_
  refine lv_iadd hx hb d_law_903 ?_
  refine va_sld hx hb hX hbl hbA hS (sc_in (k := 1) hi hL (by decide)) d_law_904 ?_
  refine lv_aload_n hx hb d_law_905 rfl (lv_at hl 1 rfl) ?_
  refine lv_iload hx hb d_law_906 (lv_at hl 5 rfl) ?_
  refine lv_iconst (v := 2) hx hb d_law_908 (by decide) ?_
  refine lv_iadd hx hb d_law_909 ?_
  refine va_sld hx hb hX hbl hbA hS (sc_in (k := 2) hi hL (by decide)) d_law_910 ?_
  refine g_viS (k := 2) (As := [.int (xs (nI i + 1).toNatClampNeg), .int (xs (nI i + 2).toNatClampNeg)]) (rest := []) (own := R_Lw) (C := R_Md) (index := 118) (w1 := wMd t bm M) (w2 := wLw t a ao C1 f1) hF hm (gg_Lw_118 _) (by decide +kernel) ⟨Nat.le_of_ble_eq_true rfl, Nat.le_of_ble_eq_true rfl⟩ rfl (va_recv hK.1 (gSplit hP).1 (ci := 7) (q0 := 0) rfl (wMd_0 t bm M)) hK hP hD hS hl.1 rfl (Nat.le_of_ble_eq_true rfl) hc d_law_911 (fun r_2 u_2 H locs q_2 hP hD hS => ?_)
  rw [q_2.2] at hP hD
  rw [q_2.1]
  refine lv_istore (lv' := [(6, .int r), (5, .int k), (0, .ref b), (1, .ref (a 699)), (2, .ref (bm 0)), (3, .ref ao), (4, .int (nI i))]) hx hb d_law_914 hl (by decide) rfl (fun ls hl => ?_)
  refine lv_aload_n hx hb d_law_916 rfl (lv_at hl 4 rfl) ?_
  refine g_viS (k := 0) (As := []) (rest := []) (own := R_Lw) (C := R_Md) (index := 77) (w1 := wMd t bm M1) (w2 := wLw t a ao C1 f1) hF (c_Md_thrown l D t bm M1) (gg_Lw_77 _) (by decide +kernel) ⟨Nat.le_of_ble_eq_true rfl, Nat.le_of_ble_eq_true rfl⟩ rfl (va_recv hK.1 (gSplit hP).1 (ci := 7) (q0 := 0) rfl (wMd_0 t bm M1)) hK hP hD hS hl.1 rfl (Nat.le_of_ble_eq_true rfl) hc d_law_917 (fun r_3 u_3 H locs q_3 hP hD hS => ?_)
  rw [q_3.2] at hP hD
  rw [q_3.1]
  have hP := gSwapP (w1 := wMd t bm M1) (w2 := wLw t a ao C1 f1) hP
  have hD := gSwapD (w1 := wMd t bm M1) (w2 := wLw t a ao C1 f1) hD
  refine lv_iload hx hb d_law_920 (lv_at hl 1 rfl) ?_
  refine lv_icmp_eq (tgt := 927) hx hb d_law_922 (by decide) (fun c_1 => ?_) (fun c_1 => absurd hk0 c_1)
  refine lv_iload hx hb d_law_927 (lv_at hl 1 rfl) ?_
  refine lv_if_ne (tgt := 944) hx hb d_law_929 (by decide) (fun c_2 => ?_) (fun c_2 => ?_)
  · refine lv_goto (tgt := 1078) hx hb d_law_944 (by decide) ?_
    exact k78 C1 M1 f1 H locs ls hR1 hP hD hS (lv_sub hl [2, 3, 4, 5, 6] rfl)
  · have hv := hv c_2
    refine lv_aload_n hx hb d_law_932 rfl (lv_at hl 5 rfl) ?_
    refine lv_iconst (v := 0) hx hb d_law_933 (by decide) ?_
    refine va_lald hx hb hK.1 hP 67 3 (a := ao) (cA := t 3) (n := 1) (f := f1) rfl rfl (i := 0) (by unfold vp_in; decide) d_law_934 ?_
    refine lv_iload hx hb d_law_935 (lv_at hl 0 rfl) ?_
    refine lv_i2l (v := r.toInt64) hx hb d_law_937 rfl ?_
    refine g_lcmp0 hx hb (hv) d_law_938 ?_
    refine lv_if_eq (tgt := 944) hx hb d_law_939 (by decide) (fun c_3 => ?_) (fun c_3 => absurd rfl c_3)
    refine lv_goto (tgt := 1078) hx hb d_law_944 (by decide) ?_
    exact k78 C1 M1 f1 H locs ls hR1 hP hD hS (lv_sub hl [2, 3, 4, 5, 6] rfl)
set_option maxHeartbeats 4000000 in
set_option maxRecDepth 100000 in
theorem law_raised {p : Program} {e : Env} {s : State} {m : MethodId} {below : List Frame} {meth : Method} {c : Code} (l : Launch) (hl0 : l.stackTraces = false) {b L : Nat} {xs : Nat → Int32} (hL : L ≤ 3073) (C0 : lw_At p s m meth c b L xs) {D : va_G} {t : Nat → ClassId} (hK : gK D t s) (hxo : xOK (lwA s) s s.heap) (hno : xNo s) {a : Nat → Nat} {ao : Nat} {bm : Nat → Nat} {i : Nat} (hi : i + 6 ≤ L) {C M : Nat → Nat → Int32} {f : Nat → Int64} {H : Heap} {locs : List Loc} {ls : Array Slot} {cells slots : Nat} (hc : cells + 1 ≤ room_1.cells ∧ slots + 6 ≤ room_1.slots) (hR : Rel C M) (hP : va_P D gCl (wLw t a ao C f ++ wMd t bm M) H) (hD : va_D (lwA s) (wLw t a ao C f ++ wMd t bm M)) (hS : va_S (lwA s) s.heap H locs) (hl : lv_has ls 7 [(0, .ref b), (1, .ref (a 699)), (2, .ref (bm 0)), (3, .ref ao), (4, .int (nI i))]) (k78 : lK78 p l e s m b below meth c D t a ao bm i (cells + 1) (slots + 6)) :
    W p l e room_1 s m #[Value.ref b] below meth c H locs cells slots (lw_Z below #[Value.ref b] s) (F0 m 947 ls []) := by
  obtain ⟨hx, hb, hr, hml, hown, hts0, hX, hbl, hlocks, hgv⟩ := id C0
  have hts := lw_hts hts0
  have hbA : ¬ lwA s b := Nat.not_le.mpr hbl
  have hF : CallFix p m c code 7 s #[Value.ref b] (Cond.initialized R_Lw :: gBig) R_Lw := ⟨hx, hb, hml, hown, hts⟩
  obtain ⟨nH, k, C1, f1, r, M1, hnH, hq, hm, hk0, hv, hR1⟩ := L_raised l D t a ao bm f (xs (nI i + 1).toNatClampNeg) (xs (nI i + 2).toNatClampNeg) hl0 hR
  refine lv_aload_n hx hb d_law_947 rfl (lv_at hl 1 rfl) ?_
  refine lv_aload_n hx hb d_law_948 rfl (lv_at hl 0 rfl) ?_
  refine lv_iload hx hb d_law_949 (lv_at hl 4 rfl) ?_
  refine lv_iconst (v := 1) hx hb d_law_951 (by decide) ?_
  refine lv_iadd hx hb d_law_952 ?_
  refine va_sld hx hb hX hbl hbA hS (sc_in (k := 1) hi hL (by decide)) d_law_953 ?_
  refine lv_aload_n hx hb d_law_954 rfl (lv_at hl 0 rfl) ?_
  refine lv_iload hx hb d_law_955 (lv_at hl 4 rfl) ?_
  refine lv_iconst (v := 2) hx hb d_law_957 (by decide) ?_
  refine lv_iadd hx hb d_law_958 ?_
  refine va_sld hx hb hX hbl hbA hS (sc_in (k := 2) hi hL (by decide)) d_law_959 ?_
  refine lv_aload_n hx hb d_law_960 rfl (lv_at hl 3 rfl) ?_
  refine h_sw (k := 4) (As := [.ref (a 699), .int (xs (nI i + 1).toNatClampNeg), .int (xs (nI i + 2).toNatClampNeg), .ref ao]) (rest := []) (own := R_Lw) (index := 119) (w1 := wLw t a ao C f) (w2 := wMd t bm M) hF hq (gIn k_638 (by decide +kernel)) (gIn k_639 (by decide +kernel)) (gIn k_0 (by decide +kernel)) (gIn k_640 (by decide +kernel)) (by decide +kernel) ⟨by show nH + 1 ≤ 2048; omega, by show 8 + (5 + 11) + 40 * nH ≤ 84000; omega⟩ rfl hK hP hD hS (hxo.kept hS.2.1) hno hl.1 rfl (Nat.le_of_ble_eq_true rfl) hc d_law_961 (fun r_1 u_1 H locs q_1 hP hD hS _ => ?_)
  rw [q_1.2] at hP hD
  rw [q_1.1]
  have hP := gSwapP (w1 := wLw t a ao C1 f1) (w2 := wMd t bm M) hP
  have hD := gSwapD (w1 := wLw t a ao C1 f1) (w2 := wMd t bm M) hD
  refine lv_istore (lv' := [(5, .int k), (0, .ref b), (1, .ref (a 699)), (2, .ref (bm 0)), (3, .ref ao), (4, .int (nI i))]) hx hb d_law_964 hl (by decide) rfl (fun ls hl => ?_)
  refine lv_aload_n hx hb d_law_966 rfl (lv_at hl 3 rfl) ?_
  refine lv_aload_n hx hb d_law_967 rfl (lv_at hl 1 rfl) ?_
  refine lv_iload hx hb d_law_968 (lv_at hl 5 rfl) ?_
  refine lv_iconst (v := 1) hx hb d_law_970 (by decide) ?_
  refine lv_iadd hx hb d_law_971 ?_
  refine va_sld hx hb hX hbl hbA hS (sc_in (k := 1) hi hL (by decide)) d_law_972 ?_
  refine lv_aload_n hx hb d_law_973 rfl (lv_at hl 1 rfl) ?_
  refine lv_iload hx hb d_law_974 (lv_at hl 5 rfl) ?_
  refine lv_iconst (v := 2) hx hb d_law_976 (by decide) ?_
  refine lv_iadd hx hb d_law_977 ?_
  refine va_sld hx hb hX hbl hbA hS (sc_in (k := 2) hi hL (by decide)) d_law_978 ?_
  refine g_viS (k := 2) (As := [.int (xs (nI i + 1).toNatClampNeg), .int (xs (nI i + 2).toNatClampNeg)]) (rest := []) (own := R_Lw) (C := R_Md) (index := 121) (w1 := wMd t bm M) (w2 := wLw t a ao C1 f1) hF hm (gg_Lw_121 _) (by decide +kernel) ⟨Nat.le_of_ble_eq_true rfl, Nat.le_of_ble_eq_true rfl⟩ rfl (va_recv hK.1 (gSplit hP).1 (ci := 7) (q0 := 0) rfl (wMd_0 t bm M)) hK hP hD hS hl.1 rfl (Nat.le_of_ble_eq_true rfl) hc d_law_979 (fun r_2 u_2 H locs q_2 hP hD hS => ?_)
  rw [q_2.2] at hP hD
  rw [q_2.1]
  refine lv_istore (lv' := [(6, .int r), (5, .int k), (0, .ref b), (1, .ref (a 699)), (2, .ref (bm 0)), (3, .ref ao), (4, .int (nI i))]) hx hb d_law_982 hl (by decide) rfl (fun ls hl => ?_)
  refine lv_aload_n hx hb d_law_984 rfl (lv_at hl 4 rfl) ?_
  refine g_viS (k := 0) (As := []) (rest := []) (own := R_Lw) (C := R_Md) (index := 77) (w1 := wMd t bm M1) (w2 := wLw t a ao C1 f1) hF (c_Md_thrown l D t bm M1) (gg_Lw_77 _) (by decide +kernel) ⟨Nat.le_of_ble_eq_true rfl, Nat.le_of_ble_eq_true rfl⟩ rfl (va_recv hK.1 (gSplit hP).1 (ci := 7) (q0 := 0) rfl (wMd_0 t bm M1)) hK hP hD hS hl.1 rfl (Nat.le_of_ble_eq_true rfl) hc d_law_985 (fun r_3 u_3 H locs q_3 hP hD hS => ?_)
  rw [q_3.2] at hP hD
  rw [q_3.1]
  have hP := gSwapP (w1 := wMd t bm M1) (w2 := wLw t a ao C1 f1) hP
  have hD := gSwapD (w1 := wMd t bm M1) (w2 := wLw t a ao C1 f1) hD
  refine lv_iload hx hb d_law_988 (lv_at hl 1 rfl) ?_
  refine lv_icmp_eq (tgt := 995) hx hb d_law_990 (by decide) (fun c_1 => ?_) (fun c_1 => absurd hk0 c_1)
  refine lv_iload hx hb d_law_995 (lv_at hl 1 rfl) ?_
  refine lv_if_ne (tgt := 1019) hx hb d_law_997 (by decide) (fun c_2 => ?_) (fun c_2 => ?_)
  · refine lv_goto (tgt := 1078) hx hb d_law_1019 (by decide) ?_
    exact k78 C1 M1 f1 H locs ls hR1 hP hD hS (lv_sub hl [2, 3, 4, 5, 6] rfl)
  · have hv := hv c_2
    refine lv_aload_n hx hb d_law_1000 rfl (lv_at hl 5 rfl) ?_
    refine lv_iconst (v := 0) hx hb d_law_1001 (by decide) ?_
    refine va_lald hx hb hK.1 hP 67 3 (a := ao) (cA := t 3) (n := 1) (f := f1) rfl rfl (i := 0) (by unfold vp_in; decide) d_law_1002 ?_
    refine lv_iload hx hb d_law_1003 (lv_at hl 0 rfl) ?_
    refine lv_if_eq (tgt := 1012) hx hb d_law_1005 (by decide) (fun c_4 => ?_) (fun c_4 => ?_)
    · refine lv_lconst (v := 0) hx hb d_law_1012 (by decide) ?_
      refine g_lcmp0 hx hb (by rw [if_pos c_4] at hv; exact hv) d_law_1013 ?_
      refine lv_if_eq (tgt := 1019) hx hb d_law_1014 (by decide) (fun c_3 => ?_) (fun c_3 => absurd rfl c_3)
      refine lv_goto (tgt := 1078) hx hb d_law_1019 (by decide) ?_
      exact k78 C1 M1 f1 H locs ls hR1 hP hD hS (lv_sub hl [2, 3, 4, 5, 6] rfl)
    · refine lv_lconst (v := 1) hx hb d_law_1008 (by decide) ?_
      refine lv_goto (tgt := 1013) hx hb d_law_1009 (by decide) ?_
      refine g_lcmp0 hx hb (by rw [if_neg c_4] at hv; exact hv) d_law_1013 ?_
      refine lv_if_eq (tgt := 1019) hx hb d_law_1014 (by decide) (fun c_3 => ?_) (fun c_3 => absurd rfl c_3)
      refine lv_goto (tgt := 1078) hx hb d_law_1019 (by decide) ?_
      exact k78 C1 M1 f1 H locs ls hR1 hP hD hS (lv_sub hl [2, 3, 4, 5, 6] rfl)
set_option maxHeartbeats 4000000 in
set_option maxRecDepth 100000 in
theorem law_pallets {p : Program} {e : Env} {s : State} {m : MethodId} {below : List Frame} {meth : Method} {c : Code} (l : Launch) (hl0 : l.stackTraces = false) {b L : Nat} {xs : Nat → Int32} (hL : L ≤ 3073) (C0 : lw_At p s m meth c b L xs) {D : va_G} {t : Nat → ClassId} (hK : gK D t s) (hxo : xOK (lwA s) s s.heap) (hno : xNo s) {a : Nat → Nat} {ao : Nat} {bm : Nat → Nat} {i : Nat} (hi : i + 6 ≤ L) {C M : Nat → Nat → Int32} {f : Nat → Int64} {H : Heap} {locs : List Loc} {ls : Array Slot} {cells slots : Nat} (hc : cells + 1 ≤ room_1.cells ∧ slots + 6 ≤ room_1.slots) (hR : Rel C M) (hP : va_P D gCl (wLw t a ao C f ++ wMd t bm M) H) (hD : va_D (lwA s) (wLw t a ao C f ++ wMd t bm M)) (hS : va_S (lwA s) s.heap H locs) (hl : lv_has ls 7 [(0, .ref b), (1, .ref (a 699)), (2, .ref (bm 0)), (3, .ref ao), (4, .int (nI i))]) (k78 : lK78 p l e s m b below meth c D t a ao bm i (cells + 1) (slots + 6)) :
    W p l e room_1 s m #[Value.ref b] below meth c H locs cells slots (lw_Z below #[Value.ref b] s) (F0 m 1022 ls []) := by
  obtain ⟨hx, hb, hr, hml, hown, hts0, hX, hbl, hlocks, hgv⟩ := id C0
  have hts := lw_hts hts0
  have hbA : ¬ lwA s b := Nat.not_le.mpr hbl
  have hF : CallFix p m c code 7 s #[Value.ref b] (Cond.initialized R_Lw :: gBig) R_Lw := ⟨hx, hb, hml, hown, hts⟩
  obtain ⟨nH, k, C1, f1, r, M1, hnH, hq, hm, hk0, hv, hR1⟩ := L_pallets l D t a ao bm f (xs (nI i + 1).toNatClampNeg) hl0 hR
  refine lv_aload_n hx hb d_law_1022 rfl (lv_at hl 1 rfl) ?_
  refine lv_aload_n hx hb d_law_1023 rfl (lv_at hl 0 rfl) ?_
  refine lv_iload hx hb d_law_1024 (lv_at hl 4 rfl) ?_
  refine lv_iconst (v := 1) hx hb d_law_1026 (by decide) ?_
  refine lv_iadd hx hb d_law_1027 ?_
  refine va_sld hx hb hX hbl hbA hS (sc_in (k := 1) hi hL (by decide)) d_law_1028 ?_
  refine lv_aload_n hx hb d_law_1029 rfl (lv_at hl 3 rfl) ?_
  refine h_sw (k := 3) (As := [.ref (a 699), .int (xs (nI i + 1).toNatClampNeg), .ref ao]) (rest := []) (own := R_Lw) (index := 122) (w1 := wLw t a ao C f) (w2 := wMd t bm M) hF hq (gIn k_647 (by decide +kernel)) (gIn k_648 (by decide +kernel)) (gIn k_0 (by decide +kernel)) (gIn k_649 (by decide +kernel)) (by decide +kernel) ⟨by show nH + 1 ≤ 2048; omega, by show 8 + (4 + 11) + 40 * nH ≤ 84000; omega⟩ rfl hK hP hD hS (hxo.kept hS.2.1) hno hl.1 rfl (Nat.le_of_ble_eq_true rfl) hc d_law_1030 (fun r_1 u_1 H locs q_1 hP hD hS _ => ?_)
  rw [q_1.2] at hP hD
  rw [q_1.1]
  have hP := gSwapP (w1 := wLw t a ao C1 f1) (w2 := wMd t bm M) hP
  have hD := gSwapD (w1 := wLw t a ao C1 f1) (w2 := wMd t bm M) hD
  refine lv_istore (lv' := [(5, .int k), (0, .ref b), (1, .ref (a 699)), (2, .ref (bm 0)), (3, .ref ao), (4, .int (nI i))]) hx hb d_law_1033 hl (by decide) rfl (fun ls hl => ?_)
  refine lv_aload_n hx hb d_law_1035 rfl (lv_at hl 3 rfl) ?_
  refine lv_aload_n hx hb d_law_1036 rfl (lv_at hl 1 rfl) ?_
  refine lv_iload hx hb d_law_1037 (lv_at hl 5 rfl) ?_
  refine lv_iconst (v := 1) hx hb d_law_1039 (by decide) ?_
  refine lv_iadd hx hb d_law_1040 ?_
  refine va_sld hx hb hX hbl hbA hS (sc_in (k := 1) hi hL (by decide)) d_law_1041 ?_
  refine g_viS (k := 1) (As := [.int (xs (nI i + 1).toNatClampNeg)]) (rest := []) (own := R_Lw) (C := R_Md) (index := 124) (w1 := wMd t bm M) (w2 := wLw t a ao C1 f1) hF hm (gg_Lw_124 _) (by decide +kernel) ⟨Nat.le_of_ble_eq_true rfl, Nat.le_of_ble_eq_true rfl⟩ rfl (va_recv hK.1 (gSplit hP).1 (ci := 7) (q0 := 0) rfl (wMd_0 t bm M)) hK hP hD hS hl.1 rfl (Nat.le_of_ble_eq_true rfl) hc d_law_1042 (fun r_2 u_2 H locs q_2 hP hD hS => ?_)
  rw [q_2.2] at hP hD
  rw [q_2.1]
  refine lv_istore (lv' := [(6, .int r), (5, .int k), (0, .ref b), (1, .ref (a 699)), (2, .ref (bm 0)), (3, .ref ao), (4, .int (nI i))]) hx hb d_law_1045 hl (by decide) rfl (fun ls hl => ?_)
  refine lv_aload_n hx hb d_law_1047 rfl (lv_at hl 4 rfl) ?_
  refine g_viS (k := 0) (As := []) (rest := []) (own := R_Lw) (C := R_Md) (index := 77) (w1 := wMd t bm M1) (w2 := wLw t a ao C1 f1) hF (c_Md_thrown l D t bm M1) (gg_Lw_77 _) (by decide +kernel) ⟨Nat.le_of_ble_eq_true rfl, Nat.le_of_ble_eq_true rfl⟩ rfl (va_recv hK.1 (gSplit hP).1 (ci := 7) (q0 := 0) rfl (wMd_0 t bm M1)) hK hP hD hS hl.1 rfl (Nat.le_of_ble_eq_true rfl) hc d_law_1048 (fun r_3 u_3 H locs q_3 hP hD hS => ?_)
  rw [q_3.2] at hP hD
  rw [q_3.1]
  have hP := gSwapP (w1 := wMd t bm M1) (w2 := wLw t a ao C1 f1) hP
  have hD := gSwapD (w1 := wMd t bm M1) (w2 := wLw t a ao C1 f1) hD
  refine lv_iload hx hb d_law_1051 (lv_at hl 1 rfl) ?_
  refine lv_icmp_eq (tgt := 1058) hx hb d_law_1053 (by decide) (fun c_1 => ?_) (fun c_1 => absurd hk0 c_1)
  refine lv_iload hx hb d_law_1058 (lv_at hl 1 rfl) ?_
  refine lv_if_ne (tgt := 1075) hx hb d_law_1060 (by decide) (fun c_2 => ?_) (fun c_2 => ?_)
  · refine lv_goto (tgt := 1078) hx hb d_law_1075 (by decide) ?_
    exact k78 C1 M1 f1 H locs ls hR1 hP hD hS (lv_sub hl [2, 3, 4, 5, 6] rfl)
  · have hv := hv c_2
    refine lv_aload_n hx hb d_law_1063 rfl (lv_at hl 5 rfl) ?_
    refine lv_iconst (v := 0) hx hb d_law_1064 (by decide) ?_
    refine va_lald hx hb hK.1 hP 67 3 (a := ao) (cA := t 3) (n := 1) (f := f1) rfl rfl (i := 0) (by unfold vp_in; decide) d_law_1065 ?_
    refine lv_iload hx hb d_law_1066 (lv_at hl 0 rfl) ?_
    refine lv_i2l (v := r.toInt64) hx hb d_law_1068 rfl ?_
    refine g_lcmp0 hx hb (hv) d_law_1069 ?_
    refine lv_if_eq (tgt := 1075) hx hb d_law_1070 (by decide) (fun c_3 => ?_) (fun c_3 => absurd rfl c_3)
    refine lv_goto (tgt := 1078) hx hb d_law_1075 (by decide) ?_
    exact k78 C1 M1 f1 H locs ls hR1 hP hD hS (lv_sub hl [2, 3, 4, 5, 6] rfl)
set_option maxHeartbeats 4000000 in
set_option maxRecDepth 100000 in
theorem law_run {p : Program} {e : Env} {s : State} {m : MethodId} {below : List Frame} {meth : Method} {c : Code} (l : Launch) (hl0 : l.stackTraces = false) {b L : Nat} {xs : Nat → Int32} (hL : L ≤ 3073) (C0 : lw_At p s m meth c b L xs) {D : va_G} {t : Nat → ClassId} (hK : gK D t s) (hxo : xOK (lwA s) s s.heap) (hno : xNo s) {a : Nat → Nat} {ao : Nat} {bm : Nat → Nat} {i : Nat} (hi : i + 6 ≤ L) {C M : Nat → Nat → Int32} {f : Nat → Int64} {H : Heap} {locs : List Loc} {ls : Array Slot} {cells slots : Nat} (hc : cells + 1 ≤ room_1.cells ∧ slots + 6 ≤ room_1.slots) (hR : Rel C M) (hP : va_P D gCl (wLw t a ao C f ++ wMd t bm M) H) (hD : va_D (lwA s) (wLw t a ao C f ++ wMd t bm M)) (hS : va_S (lwA s) s.heap H locs) (hl : lv_has ls 7 [(0, .ref b), (1, .ref (a 699)), (2, .ref (bm 0)), (3, .ref ao), (4, .int (nI i))]) (k78 : lK78 p l e s m b below meth c D t a ao bm i (cells + 1) (slots + 6)) :
    W p l e room_1 s m #[Value.ref b] below meth c H locs cells slots (lw_Z below #[Value.ref b] s) (F0 m 494 ls []) := by
  obtain ⟨hx, hb, hr, hml, hown, hts0, hX, hbl, hlocks, hgv⟩ := id C0
  have hts := lw_hts hts0
  have hbA : ¬ lwA s b := Nat.not_le.mpr hbl
  have hF : CallFix p m c code 7 s #[Value.ref b] (Cond.initialized R_Lw :: gBig) R_Lw := ⟨hx, hb, hml, hown, hts⟩
  obtain ⟨C1, r, M1, hq, hm, hR1⟩ := L_run l D t a bm hR
  refine lv_aload_n hx hb d_law_494 rfl (lv_at hl 1 rfl) ?_
  have hP : va_P D gCl (wFb t a C ++ ([(ao, .inl (t 3, 1, .inr (.inl f)))] ++ wMd t bm M)) H := by rw [← List.append_assoc]; exact hP
  have hD : va_D (lwA s) (wFb t a C ++ ([(ao, .inl (t 3, 1, .inr (.inl f)))] ++ wMd t bm M)) := by rw [← List.append_assoc]; exact hD
  refine g_viS (k := 0) (As := []) (rest := []) (own := R_Lw) (C := R_Fb) (index := 91) (w1 := wFb t a C) (w2 := [(ao, .inl (t 3, 1, .inr (.inl f)))] ++ wMd t bm M) hF hq (gg_Lw_91 _) (by decide +kernel) ⟨Nat.le_of_ble_eq_true rfl, Nat.le_of_ble_eq_true rfl⟩ rfl (va_recv hK.1 (gSplit hP).1 (ci := 6) (q0 := 0) rfl (wFb_o6 t a C)) hK hP hD hS hl.1 rfl (Nat.le_of_ble_eq_true rfl) ⟨Nat.le_of_succ_le hc.1, Nat.le_trans (Nat.le_add_right _ _) hc.2⟩ d_law_495 (fun r_1 u_1 H locs q_1 hP hD hS => ?_)
  rw [q_1.2] at hP hD
  rw [q_1.1]
  have hP : va_P D gCl (wLw t a ao C1 f ++ wMd t bm M) H := by show va_P D gCl ((wFb t a C1 ++ [(ao, .inl (t 3, 1, .inr (.inl f)))]) ++ wMd t bm M) H; rw [List.append_assoc]; exact hP
  have hD : va_D (lwA s) (wLw t a ao C1 f ++ wMd t bm M) := by show va_D (lwA s) ((wFb t a C1 ++ [(ao, .inl (t 3, 1, .inr (.inl f)))]) ++ wMd t bm M); rw [List.append_assoc]; exact hD
  have hP := gSwapP (w1 := wLw t a ao C1 f) (w2 := wMd t bm M) hP
  have hD := gSwapD (w1 := wLw t a ao C1 f) (w2 := wMd t bm M) hD
  refine lv_aload_n hx hb d_law_498 rfl (lv_at hl 2 rfl) ?_
  refine g_viS (k := 0) (As := []) (rest := [.int r]) (own := R_Lw) (C := R_Md) (index := 94) (w1 := wMd t bm M) (w2 := wLw t a ao C1 f) hF hm (gg_Lw_94 _) (by decide +kernel) ⟨Nat.le_of_ble_eq_true rfl, Nat.le_of_ble_eq_true rfl⟩ rfl (va_recv hK.1 (gSplit hP).1 (ci := 7) (q0 := 0) rfl (wMd_0 t bm M)) hK hP hD hS hl.1 rfl (Nat.le_of_ble_eq_true rfl) ⟨Nat.le_of_succ_le hc.1, Nat.le_trans (Nat.le_add_right _ _) hc.2⟩ d_law_499 (fun r_2 u_2 H locs q_2 hP hD hS => ?_)
  rw [q_2.2] at hP hD
  rw [q_2.1]
  have hP := gSwapP (w1 := wMd t bm M1) (w2 := wLw t a ao C1 f) hP
  have hD := gSwapD (w1 := wMd t bm M1) (w2 := wLw t a ao C1 f) hD
  refine lv_icmp_eq (tgt := 1078) hx hb d_law_502 (by decide) (fun c_1 => ?_) (fun c_1 => absurd rfl c_1)
  refine W.widen (k := cells + 1) (n := slots + 6) (Nat.le_succ _) (Nat.le_add_right _ _) ?_
  exact k78 C1 M1 f H locs ls hR1 hP hD hS hl
end
