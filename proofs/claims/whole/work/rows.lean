section
-- ===== PART A: goes FIRST, ahead of the names: the tables' words, and 'selects' of the private methods out of them =====
/-- a private method of a class that the tables say can be made, by its rows of tables_1 -/
def lw_okq (q : MethodName × Nat) : Prop := (q.1.cls ≠ "java/lang/invoke/MethodHandle" ∧ q.1.cls ≠ "java/lang/invoke/VarHandle") ∧ Cond.instantiable q.1.cls q.2 ∈ tables_1 ∧ Cond.privateMethod q.1 ∈ tables_1 ∧ Cond.instanceMethod q.1 ∈ tables_1
theorem lw_p0 : lw_okq (⟨"FlatBoxes$Search", "chooseCarton", "(LFlatBoxes$Cartons;LFlatBoxes$Parts;LFlatBoxes$Packing;I)V"⟩, 8) := ⟨⟨by decide +kernel, by decide +kernel⟩, List.mem_of_getElem? (i := 154) (by decide +kernel), List.mem_of_getElem? (i := 277) (by decide +kernel), List.mem_of_getElem? (i := 278) (by decide +kernel)⟩
theorem lw_p1 : lw_okq (⟨"FlatBoxes$Packing", "firstWithRoom", "(II)I"⟩, 9) := ⟨⟨by decide +kernel, by decide +kernel⟩, List.mem_of_getElem? (i := 111) (by decide +kernel), List.mem_of_getElem? (i := 301) (by decide +kernel), List.mem_of_getElem? (i := 302) (by decide +kernel)⟩
theorem lw_p2 : lw_okq (⟨"FlatBoxes$Packing", "lay", "(LFlatBoxes$Parts;II)V"⟩, 9) := ⟨⟨by decide +kernel, by decide +kernel⟩, List.mem_of_getElem? (i := 111) (by decide +kernel), List.mem_of_getElem? (i := 305) (by decide +kernel), List.mem_of_getElem? (i := 306) (by decide +kernel)⟩
theorem lw_p3 : lw_okq (⟨"FlatBoxes$Packing", "open", "(II)V"⟩, 9) := ⟨⟨by decide +kernel, by decide +kernel⟩, List.mem_of_getElem? (i := 111) (by decide +kernel), List.mem_of_getElem? (i := 309) (by decide +kernel), List.mem_of_getElem? (i := 310) (by decide +kernel)⟩
theorem lw_p4 : lw_okq (⟨"FlatBoxes$Packing", "fragileLayers", "()I"⟩, 9) := ⟨⟨by decide +kernel, by decide +kernel⟩, List.mem_of_getElem? (i := 111) (by decide +kernel), List.mem_of_getElem? (i := 318) (by decide +kernel), List.mem_of_getElem? (i := 319) (by decide +kernel)⟩
theorem lw_p5 : lw_okq (⟨"FlatBoxes$Search", "share", "(II)V"⟩, 8) := ⟨⟨by decide +kernel, by decide +kernel⟩, List.mem_of_getElem? (i := 154) (by decide +kernel), List.mem_of_getElem? (i := 323) (by decide +kernel), List.mem_of_getElem? (i := 324) (by decide +kernel)⟩
theorem lw_p6 : lw_okq (⟨"FlatBoxes$Search", "compareWithBest", "(I)V"⟩, 8) := ⟨⟨by decide +kernel, by decide +kernel⟩, List.mem_of_getElem? (i := 154) (by decide +kernel), List.mem_of_getElem? (i := 327) (by decide +kernel), List.mem_of_getElem? (i := 328) (by decide +kernel)⟩
theorem lw_p7 : lw_okq (⟨"FlatBoxes$Shares", "tellBox", "(IILFlatBoxes$Parts;LFlatBoxes$Packing;)V"⟩, 5) := ⟨⟨by decide +kernel, by decide +kernel⟩, List.mem_of_getElem? (i := 185) (by decide +kernel), List.mem_of_getElem? (i := 352) (by decide +kernel), List.mem_of_getElem? (i := 353) (by decide +kernel)⟩
theorem lw_p8 : lw_okq (⟨"FlatBoxes$Shares", "tellParts", "(IILFlatBoxes$Parts;LFlatBoxes$Packing;)V"⟩, 5) := ⟨⟨by decide +kernel, by decide +kernel⟩, List.mem_of_getElem? (i := 185) (by decide +kernel), List.mem_of_getElem? (i := 364) (by decide +kernel), List.mem_of_getElem? (i := 365) (by decide +kernel)⟩
theorem lw_p9 : lw_okq (⟨"FlatBoxes$Packing", "isBelow", "(II)Z"⟩, 9) := ⟨⟨by decide +kernel, by decide +kernel⟩, List.mem_of_getElem? (i := 111) (by decide +kernel), List.mem_of_getElem? (i := 373) (by decide +kernel), List.mem_of_getElem? (i := 374) (by decide +kernel)⟩
theorem lw_p10 : lw_okq (⟨"java/lang/Throwable", "fillInStackTrace", "(I)Ljava/lang/Throwable;"⟩, 6) := ⟨⟨by decide +kernel, by decide +kernel⟩, List.mem_of_getElem? (i := 437) (by decide +kernel), List.mem_of_getElem? (i := 435) (by decide +kernel), List.mem_of_getElem? (i := 436) (by decide +kernel)⟩
theorem lw_p11 : lw_okq (⟨"FlatBoxes$Parts", "sortInByThickness", "(I)V"⟩, 9) := ⟨⟨by decide +kernel, by decide +kernel⟩, List.mem_of_getElem? (i := 64) (by decide +kernel), List.mem_of_getElem? (i := 507) (by decide +kernel), List.mem_of_getElem? (i := 508) (by decide +kernel)⟩
theorem lw_p12 : lw_okq (⟨"FlatBoxes$Parts", "sortInByStep", "(I)V"⟩, 9) := ⟨⟨by decide +kernel, by decide +kernel⟩, List.mem_of_getElem? (i := 64) (by decide +kernel), List.mem_of_getElem? (i := 511) (by decide +kernel), List.mem_of_getElem? (i := 512) (by decide +kernel)⟩
theorem lw_p13 : lw_okq (⟨"FlatBoxes", "needShares", "()V"⟩, 6) := ⟨⟨by decide +kernel, by decide +kernel⟩, List.mem_of_getElem? (i := 19) (by decide +kernel), List.mem_of_getElem? (i := 560) (by decide +kernel), List.mem_of_getElem? (i := 561) (by decide +kernel)⟩
theorem lw_p14 : lw_okq (⟨"FlatBoxes$Bags", "couldHaveOneMore", "(III)Z"⟩, 7) := ⟨⟨by decide +kernel, by decide +kernel⟩, List.mem_of_getElem? (i := 214) (by decide +kernel), List.mem_of_getElem? (i := 631) (by decide +kernel), List.mem_of_getElem? (i := 632) (by decide +kernel)⟩
theorem lw_p15 : lw_okq (⟨"FlatBoxes$Bags", "couldHaveOneLess", "(III)Z"⟩, 7) := ⟨⟨by decide +kernel, by decide +kernel⟩, List.mem_of_getElem? (i := 214) (by decide +kernel), List.mem_of_getElem? (i := 635) (by decide +kernel), List.mem_of_getElem? (i := 636) (by decide +kernel)⟩
def lw_privs_1 : List (MethodName × Nat) := [(⟨"FlatBoxes$Search", "chooseCarton", "(LFlatBoxes$Cartons;LFlatBoxes$Parts;LFlatBoxes$Packing;I)V"⟩, 8), (⟨"FlatBoxes$Packing", "firstWithRoom", "(II)I"⟩, 9), (⟨"FlatBoxes$Packing", "lay", "(LFlatBoxes$Parts;II)V"⟩, 9), (⟨"FlatBoxes$Packing", "open", "(II)V"⟩, 9), (⟨"FlatBoxes$Packing", "fragileLayers", "()I"⟩, 9), (⟨"FlatBoxes$Search", "share", "(II)V"⟩, 8), (⟨"FlatBoxes$Search", "compareWithBest", "(I)V"⟩, 8), (⟨"FlatBoxes$Shares", "tellBox", "(IILFlatBoxes$Parts;LFlatBoxes$Packing;)V"⟩, 5), (⟨"FlatBoxes$Shares", "tellParts", "(IILFlatBoxes$Parts;LFlatBoxes$Packing;)V"⟩, 5), (⟨"FlatBoxes$Packing", "isBelow", "(II)Z"⟩, 9), (⟨"java/lang/Throwable", "fillInStackTrace", "(I)Ljava/lang/Throwable;"⟩, 6), (⟨"FlatBoxes$Parts", "sortInByThickness", "(I)V"⟩, 9), (⟨"FlatBoxes$Parts", "sortInByStep", "(I)V"⟩, 9), (⟨"FlatBoxes", "needShares", "()V"⟩, 6), (⟨"FlatBoxes$Bags", "couldHaveOneMore", "(III)Z"⟩, 7), (⟨"FlatBoxes$Bags", "couldHaveOneLess", "(III)Z"⟩, 7)]
theorem lw_r1 : ∀ q ∈ lw_privs_1, lw_okq q := List.forall_mem_cons.mpr ⟨lw_p0, List.forall_mem_cons.mpr ⟨lw_p1, List.forall_mem_cons.mpr ⟨lw_p2, List.forall_mem_cons.mpr ⟨lw_p3, List.forall_mem_cons.mpr ⟨lw_p4, List.forall_mem_cons.mpr ⟨lw_p5, List.forall_mem_cons.mpr ⟨lw_p6, List.forall_mem_cons.mpr ⟨lw_p7, List.forall_mem_cons.mpr ⟨lw_p8, List.forall_mem_cons.mpr ⟨lw_p9, List.forall_mem_cons.mpr ⟨lw_p10, List.forall_mem_cons.mpr ⟨lw_p11, List.forall_mem_cons.mpr ⟨lw_p12, List.forall_mem_cons.mpr ⟨lw_p13, List.forall_mem_cons.mpr ⟨lw_p14, List.forall_mem_cons.mpr ⟨lw_p15, fun _ h => absurd h List.not_mem_nil⟩⟩⟩⟩⟩⟩⟩⟩⟩⟩⟩⟩⟩⟩⟩⟩
theorem lw_p16 : lw_okq (⟨"FlatBoxesModel", "pack", "(II)Z"⟩, 34) := ⟨⟨by decide +kernel, by decide +kernel⟩, List.mem_of_getElem? (i := 661) (by decide +kernel), List.mem_of_getElem? (i := 798) (by decide +kernel), List.mem_of_getElem? (i := 799) (by decide +kernel)⟩
theorem lw_p17 : lw_okq (⟨"FlatBoxesModel", "byThickness", "(I)I"⟩, 34) := ⟨⟨by decide +kernel, by decide +kernel⟩, List.mem_of_getElem? (i := 661) (by decide +kernel), List.mem_of_getElem? (i := 802) (by decide +kernel), List.mem_of_getElem? (i := 803) (by decide +kernel)⟩
theorem lw_p18 : lw_okq (⟨"FlatBoxesModel", "has", "(II)Z"⟩, 34) := ⟨⟨by decide +kernel, by decide +kernel⟩, List.mem_of_getElem? (i := 661) (by decide +kernel), List.mem_of_getElem? (i := 806) (by decide +kernel), List.mem_of_getElem? (i := 807) (by decide +kernel)⟩
theorem lw_p19 : lw_okq (⟨"FlatBoxesModel", "place", "(II)V"⟩, 34) := ⟨⟨by decide +kernel, by decide +kernel⟩, List.mem_of_getElem? (i := 661) (by decide +kernel), List.mem_of_getElem? (i := 810) (by decide +kernel), List.mem_of_getElem? (i := 811) (by decide +kernel)⟩
theorem lw_p20 : lw_okq (⟨"FlatBoxesModel", "highOf", "()I"⟩, 34) := ⟨⟨by decide +kernel, by decide +kernel⟩, List.mem_of_getElem? (i := 661) (by decide +kernel), List.mem_of_getElem? (i := 814) (by decide +kernel), List.mem_of_getElem? (i := 815) (by decide +kernel)⟩
theorem lw_p21 : lw_okq (⟨"FlatBoxesModel", "findBoxes", "()V"⟩, 34) := ⟨⟨by decide +kernel, by decide +kernel⟩, List.mem_of_getElem? (i := 661) (by decide +kernel), List.mem_of_getElem? (i := 822) (by decide +kernel), List.mem_of_getElem? (i := 823) (by decide +kernel)⟩
theorem lw_p22 : lw_okq (⟨"FlatBoxesModel", "setsOf", "([I)I"⟩, 34) := ⟨⟨by decide +kernel, by decide +kernel⟩, List.mem_of_getElem? (i := 661) (by decide +kernel), List.mem_of_getElem? (i := 826) (by decide +kernel), List.mem_of_getElem? (i := 827) (by decide +kernel)⟩
theorem lw_p23 : lw_okq (⟨"FlatBoxesModel", "costOf", "(I)I"⟩, 34) := ⟨⟨by decide +kernel, by decide +kernel⟩, List.mem_of_getElem? (i := 661) (by decide +kernel), List.mem_of_getElem? (i := 830) (by decide +kernel), List.mem_of_getElem? (i := 831) (by decide +kernel)⟩
theorem lw_p24 : lw_okq (⟨"FlatBoxesModel", "next", "()Z"⟩, 34) := ⟨⟨by decide +kernel, by decide +kernel⟩, List.mem_of_getElem? (i := 661) (by decide +kernel), List.mem_of_getElem? (i := 834) (by decide +kernel), List.mem_of_getElem? (i := 835) (by decide +kernel)⟩
theorem lw_p25 : lw_okq (⟨"FlatBoxesModel", "packBox", "(I)I"⟩, 34) := ⟨⟨by decide +kernel, by decide +kernel⟩, List.mem_of_getElem? (i := 661) (by decide +kernel), List.mem_of_getElem? (i := 842) (by decide +kernel), List.mem_of_getElem? (i := 843) (by decide +kernel)⟩
theorem lw_p26 : lw_okq (⟨"FlatBoxesModel", "isBelow", "(II)Z"⟩, 34) := ⟨⟨by decide +kernel, by decide +kernel⟩, List.mem_of_getElem? (i := 661) (by decide +kernel), List.mem_of_getElem? (i := 846) (by decide +kernel), List.mem_of_getElem? (i := 847) (by decide +kernel)⟩
theorem lw_p27 : lw_okq (⟨"FlatBoxesModel", "gramsOf", "(I)I"⟩, 34) := ⟨⟨by decide +kernel, by decide +kernel⟩, List.mem_of_getElem? (i := 661) (by decide +kernel), List.mem_of_getElem? (i := 854) (by decide +kernel), List.mem_of_getElem? (i := 855) (by decide +kernel)⟩
def lw_privs_2 : List (MethodName × Nat) := [(⟨"FlatBoxesModel", "pack", "(II)Z"⟩, 34), (⟨"FlatBoxesModel", "byThickness", "(I)I"⟩, 34), (⟨"FlatBoxesModel", "has", "(II)Z"⟩, 34), (⟨"FlatBoxesModel", "place", "(II)V"⟩, 34), (⟨"FlatBoxesModel", "highOf", "()I"⟩, 34), (⟨"FlatBoxesModel", "findBoxes", "()V"⟩, 34), (⟨"FlatBoxesModel", "setsOf", "([I)I"⟩, 34), (⟨"FlatBoxesModel", "costOf", "(I)I"⟩, 34), (⟨"FlatBoxesModel", "next", "()Z"⟩, 34), (⟨"FlatBoxesModel", "packBox", "(I)I"⟩, 34), (⟨"FlatBoxesModel", "isBelow", "(II)Z"⟩, 34), (⟨"FlatBoxesModel", "gramsOf", "(I)I"⟩, 34)]
theorem lw_r2 : ∀ q ∈ lw_privs_2, lw_okq q := List.forall_mem_cons.mpr ⟨lw_p16, List.forall_mem_cons.mpr ⟨lw_p17, List.forall_mem_cons.mpr ⟨lw_p18, List.forall_mem_cons.mpr ⟨lw_p19, List.forall_mem_cons.mpr ⟨lw_p20, List.forall_mem_cons.mpr ⟨lw_p21, List.forall_mem_cons.mpr ⟨lw_p22, List.forall_mem_cons.mpr ⟨lw_p23, List.forall_mem_cons.mpr ⟨lw_p24, List.forall_mem_cons.mpr ⟨lw_p25, List.forall_mem_cons.mpr ⟨lw_p26, List.forall_mem_cons.mpr ⟨lw_p27, fun _ h => absurd h List.not_mem_nil⟩⟩⟩⟩⟩⟩⟩⟩⟩⟩⟩⟩
def lw_privs : List (MethodName × Nat) := lw_privs_1 ++ (lw_privs_2)
def lw_tbl : List Cond := k2_sels lw_privs ++ tables_1
theorem lw_privs_ok : ∀ q ∈ lw_privs, lw_okq q := by
  show ∀ q ∈ lw_privs_1 ++ (lw_privs_2), lw_okq q
  exact List.forall_mem_append.mpr ⟨lw_r1, lw_r2⟩
end
section
/-! names: written by wip/gen/names.py out of the claim -/
def gBig : List Cond := lw_tbl.filter goodWord
theorem gIn {w : Cond} (h : w ∈ tables_1) (g : goodWord w = true) : w ∈ gBig := List.mem_filter.mpr ⟨List.mem_append_right _ h, g⟩
theorem gInP {w : Cond} (h : w ∈ k2_sels lw_privs) (g : goodWord w = true) : w ∈ gBig := List.mem_filter.mpr ⟨List.mem_append_left _ h, g⟩
theorem gT1 {w : Cond} (h : w ∈ tables_1_1) : w ∈ tables_1 := List.mem_append_left _ h
theorem gT2 {w : Cond} (h : w ∈ tables_1_2) : w ∈ tables_1 := List.mem_append_right _ (List.mem_append_left _ h)
theorem gT3 {w : Cond} (h : w ∈ tables_1_3) : w ∈ tables_1 := List.mem_append_right _ (List.mem_append_right _ (List.mem_append_left _ h))
theorem gT4 {w : Cond} (h : w ∈ tables_1_4) : w ∈ tables_1 := List.mem_append_right _ (List.mem_append_right _ (List.mem_append_right _ h))
def R_Bg : String := "FlatBoxes$Bags"
def F_Bg : u_T := fun k => match k with
  | 0 => ("FlatBoxes$Bags", "many", "[[I", true)
  | 1 => ("FlatBoxes$Bags", "each", "[[I", true)
  | 2 => ("FlatBoxes$Bags", "spread", "[[I", true)
  | 3 => ("FlatBoxes$Bags", "sum", "[I", true)
  | 4 => ("FlatBoxes$Bags", "spreads", "[I", true)
  | 5 => ("FlatBoxes$Bags", "kinds", "[I", true)
  | _ => ("FlatBoxes$Bags", "count", "I", false)
def t_Bg : Nat → FieldType := fun k => match k with
  | 0 => .array (.array .int)
  | 1 => .array (.array .int)
  | 2 => .array (.array .int)
  | 3 => .array .int
  | 4 => .array .int
  | 5 => .array .int
  | _ => .int
abbrev w_Bg : List Cond := u_ws R_Bg F_Bg 7
theorem n_Bg : ∀ a, a < 7 → ∀ b, b < 7 → a ≠ b → (F_Bg a).2.1 ≠ (F_Bg b).2.1 := by decide +kernel
theorem t_Bg_ok : ∀ k, k < 7 → parseFieldDescriptor (F_Bg k).2.2.1 = some (t_Bg k) := by decide +kernel
theorem i_Bg : ∀ w ∈ w_Bg, w ∈ gBig := by decide +kernel
def R_Ct : String := "FlatBoxes$Cartons"
def F_Ct : u_T := fun k => match k with
  | 0 => ("FlatBoxes$Cartons", "width", "[I", true)
  | 1 => ("FlatBoxes$Cartons", "depth", "[I", true)
  | 2 => ("FlatBoxes$Cartons", "height", "[I", true)
  | 3 => ("FlatBoxes$Cartons", "cents", "[I", true)
  | 4 => ("FlatBoxes$Cartons", "grams", "[I", true)
  | _ => ("FlatBoxes$Cartons", "count", "I", false)
def t_Ct : Nat → FieldType := fun k => match k with
  | 0 => .array .int
  | 1 => .array .int
  | 2 => .array .int
  | 3 => .array .int
  | 4 => .array .int
  | _ => .int
abbrev w_Ct : List Cond := u_ws R_Ct F_Ct 6
theorem n_Ct : ∀ a, a < 6 → ∀ b, b < 6 → a ≠ b → (F_Ct a).2.1 ≠ (F_Ct b).2.1 := by decide +kernel
theorem t_Ct_ok : ∀ k, k < 6 → parseFieldDescriptor (F_Ct k).2.2.1 = some (t_Ct k) := by decide +kernel
theorem i_Ct : ∀ w ∈ w_Ct, w ∈ gBig := by decide +kernel
def R_Pk : String := "FlatBoxes$Packing"
def F_Pk : u_T := fun k => match k with
  | 0 => ("FlatBoxes$Packing", "gap", "I", true)
  | 1 => ("FlatBoxes$Packing", "end", "[I", true)
  | 2 => ("FlatBoxes$Packing", "thick", "[I", true)
  | 3 => ("FlatBoxes$Packing", "grams", "[I", true)
  | 4 => ("FlatBoxes$Packing", "firstStep", "[I", true)
  | 5 => ("FlatBoxes$Packing", "fragile", "[Z", true)
  | 6 => ("FlatBoxes$Packing", "layerOf", "[I", true)
  | 7 => ("FlatBoxes$Packing", "xOf", "[I", true)
  | _ => ("FlatBoxes$Packing", "layers", "I", false)
def t_Pk : Nat → FieldType := fun k => match k with
  | 0 => .int
  | 1 => .array .int
  | 2 => .array .int
  | 3 => .array .int
  | 4 => .array .int
  | 5 => .array .boolean
  | 6 => .array .int
  | 7 => .array .int
  | _ => .int
abbrev w_Pk : List Cond := u_ws R_Pk F_Pk 9
theorem n_Pk : ∀ a, a < 9 → ∀ b, b < 9 → a ≠ b → (F_Pk a).2.1 ≠ (F_Pk b).2.1 := by decide +kernel
theorem t_Pk_ok : ∀ k, k < 9 → parseFieldDescriptor (F_Pk k).2.2.1 = some (t_Pk k) := by decide +kernel
theorem i_Pk : ∀ w ∈ w_Pk, w ∈ gBig := by decide +kernel
def R_Pt : String := "FlatBoxes$Parts"
def F_Pt : u_T := fun k => match k with
  | 0 => ("FlatBoxes$Parts", "width", "[I", true)
  | 1 => ("FlatBoxes$Parts", "depth", "[I", true)
  | 2 => ("FlatBoxes$Parts", "thick", "[I", true)
  | 3 => ("FlatBoxes$Parts", "grams", "[I", true)
  | 4 => ("FlatBoxes$Parts", "step", "[I", true)
  | 5 => ("FlatBoxes$Parts", "fragile", "[Z", true)
  | 6 => ("FlatBoxes$Parts", "byThickness", "[I", true)
  | 7 => ("FlatBoxes$Parts", "byStep", "[I", true)
  | _ => ("FlatBoxes$Parts", "count", "I", false)
def t_Pt : Nat → FieldType := fun k => match k with
  | 0 => .array .int
  | 1 => .array .int
  | 2 => .array .int
  | 3 => .array .int
  | 4 => .array .int
  | 5 => .array .boolean
  | 6 => .array .int
  | 7 => .array .int
  | _ => .int
abbrev w_Pt : List Cond := u_ws R_Pt F_Pt 9
theorem n_Pt : ∀ a, a < 9 → ∀ b, b < 9 → a ≠ b → (F_Pt a).2.1 ≠ (F_Pt b).2.1 := by decide +kernel
theorem t_Pt_ok : ∀ k, k < 9 → parseFieldDescriptor (F_Pt k).2.2.1 = some (t_Pt k) := by decide +kernel
theorem i_Pt : ∀ w ∈ w_Pt, w ∈ gBig := by decide +kernel
def R_Sr : String := "FlatBoxes$Search"
def F_Sr : u_T := fun k => match k with
  | 0 => ("FlatBoxes$Search", "cartonOf", "[I", true)
  | 1 => ("FlatBoxes$Search", "priceOf", "[I", true)
  | 2 => ("FlatBoxes$Search", "sets", "[I", true)
  | 3 => ("FlatBoxes$Search", "bestSets", "[I", true)
  | 4 => ("FlatBoxes$Search", "parts", "I", false)
  | 5 => ("FlatBoxes$Search", "leastPrice", "I", false)
  | 6 => ("FlatBoxes$Search", "bestPrice", "I", false)
  | _ => ("FlatBoxes$Search", "bestBoxes", "I", false)
def t_Sr : Nat → FieldType := fun k => match k with
  | 0 => .array .int
  | 1 => .array .int
  | 2 => .array .int
  | 3 => .array .int
  | 4 => .int
  | 5 => .int
  | 6 => .int
  | _ => .int
abbrev w_Sr : List Cond := u_ws R_Sr F_Sr 8
theorem n_Sr : ∀ a, a < 8 → ∀ b, b < 8 → a ≠ b → (F_Sr a).2.1 ≠ (F_Sr b).2.1 := by decide +kernel
theorem t_Sr_ok : ∀ k, k < 8 → parseFieldDescriptor (F_Sr k).2.2.1 = some (t_Sr k) := by decide +kernel
theorem i_Sr : ∀ w ∈ w_Sr, w ∈ gBig := by decide +kernel
def R_Sh : String := "FlatBoxes$Shares"
def F_Sh : u_T := fun k => match k with
  | 0 => ("FlatBoxes$Shares", "ofPart", "[[I", true)
  | 1 => ("FlatBoxes$Shares", "ofBox", "[[I", true)
  | 2 => ("FlatBoxes$Shares", "areSought", "Z", false)
  | 3 => ("FlatBoxes$Shares", "boxes", "I", false)
  | _ => ("FlatBoxes$Shares", "cents", "I", false)
def t_Sh : Nat → FieldType := fun k => match k with
  | 0 => .array (.array .int)
  | 1 => .array (.array .int)
  | 2 => .boolean
  | 3 => .int
  | _ => .int
abbrev w_Sh : List Cond := u_ws R_Sh F_Sh 5
theorem n_Sh : ∀ a, a < 5 → ∀ b, b < 5 → a ≠ b → (F_Sh a).2.1 ≠ (F_Sh b).2.1 := by decide +kernel
theorem t_Sh_ok : ∀ k, k < 5 → parseFieldDescriptor (F_Sh k).2.2.1 = some (t_Sh k) := by decide +kernel
theorem i_Sh : ∀ w ∈ w_Sh, w ∈ gBig := by decide +kernel
def R_Fb : String := "FlatBoxes"
def F_Fb : u_T := fun k => match k with
  | 0 => ("FlatBoxes", "cartonRows", "LFlatBoxes$Cartons;", true)
  | 1 => ("FlatBoxes", "partRows", "LFlatBoxes$Parts;", true)
  | 2 => ("FlatBoxes", "packing", "LFlatBoxes$Packing;", true)
  | 3 => ("FlatBoxes", "search", "LFlatBoxes$Search;", true)
  | 4 => ("FlatBoxes", "shares", "LFlatBoxes$Shares;", true)
  | _ => ("FlatBoxes", "bagRows", "LFlatBoxes$Bags;", true)
def t_Fb : Nat → FieldType := fun k => match k with
  | 0 => .object "FlatBoxes$Cartons"
  | 1 => .object "FlatBoxes$Parts"
  | 2 => .object "FlatBoxes$Packing"
  | 3 => .object "FlatBoxes$Search"
  | 4 => .object "FlatBoxes$Shares"
  | _ => .object "FlatBoxes$Bags"
abbrev w_Fb : List Cond := u_ws R_Fb F_Fb 6
theorem n_Fb : ∀ a, a < 6 → ∀ b, b < 6 → a ≠ b → (F_Fb a).2.1 ≠ (F_Fb b).2.1 := by decide +kernel
theorem t_Fb_ok : ∀ k, k < 6 → parseFieldDescriptor (F_Fb k).2.2.1 = some (t_Fb k) := by decide +kernel
theorem i_Fb : ∀ w ∈ w_Fb, w ∈ gBig := by decide +kernel
def R_Md : String := "FlatBoxesModel"
def F_Md : u_T := fun k => match k with
  | 0 => ("FlatBoxesModel", "code", "I", false)
  | 1 => ("FlatBoxesModel", "gap", "I", true)
  | 2 => ("FlatBoxesModel", "cartons", "I", false)
  | 3 => ("FlatBoxesModel", "widths", "[I", true)
  | 4 => ("FlatBoxesModel", "depths", "[I", true)
  | 5 => ("FlatBoxesModel", "heights", "[I", true)
  | 6 => ("FlatBoxesModel", "cents", "[I", true)
  | 7 => ("FlatBoxesModel", "bears", "[I", true)
  | 8 => ("FlatBoxesModel", "parts", "I", false)
  | 9 => ("FlatBoxesModel", "wides", "[I", true)
  | 10 => ("FlatBoxesModel", "deeps", "[I", true)
  | 11 => ("FlatBoxesModel", "thicks", "[I", true)
  | 12 => ("FlatBoxesModel", "grams", "[I", true)
  | 13 => ("FlatBoxesModel", "steps", "[I", true)
  | 14 => ("FlatBoxesModel", "fragiles", "[Z", true)
  | 15 => ("FlatBoxesModel", "layerOf", "[I", true)
  | 16 => ("FlatBoxesModel", "begins", "[I", true)
  | 17 => ("FlatBoxesModel", "layers", "I", false)
  | 18 => ("FlatBoxesModel", "used", "[I", true)
  | 19 => ("FlatBoxesModel", "highs", "[I", true)
  | 20 => ("FlatBoxesModel", "weights", "[I", true)
  | 21 => ("FlatBoxesModel", "firsts", "[I", true)
  | 22 => ("FlatBoxesModel", "breaks", "[Z", true)
  | 23 => ("FlatBoxesModel", "boxOf", "[I", true)
  | 24 => ("FlatBoxesModel", "hasShares", "Z", false)
  | 25 => ("FlatBoxesModel", "boxes", "I", false)
  | 26 => ("FlatBoxesModel", "shares", "[I", true)
  | 27 => ("FlatBoxesModel", "trial", "[I", true)
  | 28 => ("FlatBoxesModel", "sets", "[I", true)
  | 29 => ("FlatBoxesModel", "bags", "I", false)
  | 30 => ("FlatBoxesModel", "kindCounts", "[I", true)
  | 31 => ("FlatBoxesModel", "manies", "[I", true)
  | 32 => ("FlatBoxesModel", "eaches", "[I", true)
  | _ => ("FlatBoxesModel", "spreads", "[I", true)
def t_Md : Nat → FieldType := fun k => match k with
  | 0 => .int
  | 1 => .int
  | 2 => .int
  | 3 => .array .int
  | 4 => .array .int
  | 5 => .array .int
  | 6 => .array .int
  | 7 => .array .int
  | 8 => .int
  | 9 => .array .int
  | 10 => .array .int
  | 11 => .array .int
  | 12 => .array .int
  | 13 => .array .int
  | 14 => .array .boolean
  | 15 => .array .int
  | 16 => .array .int
  | 17 => .int
  | 18 => .array .int
  | 19 => .array .int
  | 20 => .array .int
  | 21 => .array .int
  | 22 => .array .boolean
  | 23 => .array .int
  | 24 => .boolean
  | 25 => .int
  | 26 => .array .int
  | 27 => .array .int
  | 28 => .array .int
  | 29 => .int
  | 30 => .array .int
  | 31 => .array .int
  | 32 => .array .int
  | _ => .array .int
abbrev w_Md : List Cond := u_ws R_Md F_Md 34
theorem n_Md : ∀ a, a < 34 → ∀ b, b < 34 → a ≠ b → (F_Md a).2.1 ≠ (F_Md b).2.1 := by decide +kernel
theorem t_Md_ok : ∀ k, k < 34 → parseFieldDescriptor (F_Md k).2.2.1 = some (t_Md k) := by decide +kernel
theorem i_Md : ∀ w ∈ w_Md, w ∈ gBig := by decide +kernel
def R_Lw : String := "FlatBoxesLaw"
abbrev gCl : List vw_C := [(R_Bg, F_Bg, 7), (R_Ct, F_Ct, 6), (R_Pk, F_Pk, 9), (R_Pt, F_Pt, 9), (R_Sr, F_Sr, 8), (R_Sh, F_Sh, 5), (R_Fb, F_Fb, 6), (R_Md, F_Md, 34)]
abbrev b_Fb_init : ByteArray := prog_1_method_1_code
def y_Fb_init : MethodName := ⟨R_Fb, "<init>", "(I)V"⟩
abbrev b_Ct_init : ByteArray := prog_3_method_1_code
def y_Ct_init : MethodName := ⟨R_Ct, "<init>", "()V"⟩
abbrev b_Pt_init : ByteArray := prog_5_method_1_code
def y_Pt_init : MethodName := ⟨R_Pt, "<init>", "()V"⟩
abbrev b_Pk_init : ByteArray := prog_4_method_1_code
def y_Pk_init : MethodName := ⟨R_Pk, "<init>", "(I)V"⟩
abbrev b_Sr_init : ByteArray := prog_6_method_1_code
def y_Sr_init : MethodName := ⟨R_Sr, "<init>", "()V"⟩
abbrev b_Sh_init : ByteArray := prog_7_method_1_code
def y_Sh_init : MethodName := ⟨R_Sh, "<init>", "()V"⟩
abbrev b_Bg_init : ByteArray := prog_2_method_1_code
def y_Bg_init : MethodName := ⟨R_Bg, "<init>", "()V"⟩
abbrev b_Fb_run : ByteArray := prog_1_method_6_code
def y_Fb_run : MethodName := ⟨R_Fb, "run", "()I"⟩
abbrev b_Sr_find : ByteArray := prog_6_method_2_code
def y_Sr_find : MethodName := ⟨R_Sr, "find", "(LFlatBoxes$Cartons;LFlatBoxes$Parts;LFlatBoxes$Packing;)V"⟩
abbrev b_Pt_everyPart : ByteArray := prog_5_method_5_code
def y_Pt_everyPart : MethodName := ⟨R_Pt, "everyPart", "()I"⟩
abbrev b_Sr_chooseCarton : ByteArray := prog_6_method_3_code
def y_Sr_chooseCarton : MethodName := ⟨R_Sr, "chooseCarton", "(LFlatBoxes$Cartons;LFlatBoxes$Parts;LFlatBoxes$Packing;I)V"⟩
abbrev b_Pk_isHeldBy : ByteArray := prog_4_method_2_code
def y_Pk_isHeldBy : MethodName := ⟨R_Pk, "isHeldBy", "(LFlatBoxes$Cartons;ILFlatBoxes$Parts;I)Z"⟩
abbrev b_Pt_gramsOf : ByteArray := prog_5_method_6_code
def y_Pt_gramsOf : MethodName := ⟨R_Pt, "gramsOf", "(I)I"⟩
abbrev b_Fb_isIn : ByteArray := prog_1_method_20_code
def y_Fb_isIn : MethodName := ⟨R_Fb, "isIn", "(II)Z"⟩
abbrev b_Pt_areWithin : ByteArray := prog_5_method_7_code
def y_Pt_areWithin : MethodName := ⟨R_Pt, "areWithin", "(III)Z"⟩
abbrev b_Pk_pack : ByteArray := prog_4_method_3_code
def y_Pk_pack : MethodName := ⟨R_Pk, "pack", "(LFlatBoxes$Parts;II)V"⟩
abbrev b_Pk_firstWithRoom : ByteArray := prog_4_method_4_code
def y_Pk_firstWithRoom : MethodName := ⟨R_Pk, "firstWithRoom", "(II)I"⟩
abbrev b_Pk_lay : ByteArray := prog_4_method_5_code
def y_Pk_lay : MethodName := ⟨R_Pk, "lay", "(LFlatBoxes$Parts;II)V"⟩
abbrev b_Pk_open : ByteArray := prog_4_method_6_code
def y_Pk_open : MethodName := ⟨R_Pk, "open", "(II)V"⟩
abbrev b_Pk_height : ByteArray := prog_4_method_7_code
def y_Pk_height : MethodName := ⟨R_Pk, "height", "()I"⟩
abbrev b_Pk_fragileLayers : ByteArray := prog_4_method_8_code
def y_Pk_fragileLayers : MethodName := ⟨R_Pk, "fragileLayers", "()I"⟩
abbrev b_Sr_share : ByteArray := prog_6_method_4_code
def y_Sr_share : MethodName := ⟨R_Sr, "share", "(II)V"⟩
abbrev b_Sr_compareWithBest : ByteArray := prog_6_method_5_code
def y_Sr_compareWithBest : MethodName := ⟨R_Sr, "compareWithBest", "(I)V"⟩
abbrev b_Sh_take : ByteArray := prog_7_method_3_code
def y_Sh_take : MethodName := ⟨R_Sh, "take", "(LFlatBoxes$Search;LFlatBoxes$Cartons;LFlatBoxes$Parts;LFlatBoxes$Packing;)V"⟩
abbrev b_Sr_boxes : ByteArray := prog_6_method_6_code
def y_Sr_boxes : MethodName := ⟨R_Sr, "boxes", "()I"⟩
abbrev b_Sr_setOf : ByteArray := prog_6_method_7_code
def y_Sr_setOf : MethodName := ⟨R_Sr, "setOf", "(I)I"⟩
abbrev b_Sr_cartonFor : ByteArray := prog_6_method_8_code
def y_Sr_cartonFor : MethodName := ⟨R_Sr, "cartonFor", "(I)I"⟩
abbrev b_Sh_tellBox : ByteArray := prog_7_method_4_code
def y_Sh_tellBox : MethodName := ⟨R_Sh, "tellBox", "(IILFlatBoxes$Parts;LFlatBoxes$Packing;)V"⟩
abbrev b_Sh_tellParts : ByteArray := prog_7_method_5_code
def y_Sh_tellParts : MethodName := ⟨R_Sh, "tellParts", "(IILFlatBoxes$Parts;LFlatBoxes$Packing;)V"⟩
abbrev b_Pk_layersBelow : ByteArray := prog_4_method_9_code
def y_Pk_layersBelow : MethodName := ⟨R_Pk, "layersBelow", "(I)I"⟩
abbrev b_Pk_isBelow : ByteArray := prog_4_method_11_code
def y_Pk_isBelow : MethodName := ⟨R_Pk, "isBelow", "(II)Z"⟩
abbrev b_Pk_heightBelow : ByteArray := prog_4_method_10_code
def y_Pk_heightBelow : MethodName := ⟨R_Pk, "heightBelow", "(I)I"⟩
abbrev b_Lw_cell : ByteArray := method_2_code
def y_Lw_cell : MethodName := ⟨R_Lw, "cell", "([II)I"⟩
abbrev b_Lw_carton : ByteArray := method_3_code
def y_Lw_carton : MethodName := ⟨R_Lw, "carton", "(LFlatBoxes;IIIII[J)I"⟩
abbrev b_Fb_carton : ByteArray := prog_1_method_2_code
def y_Fb_carton : MethodName := ⟨R_Fb, "carton", "(IIIII)I"⟩
abbrev b_Fb_areSides : ByteArray := prog_1_method_19_code
def y_Fb_areSides : MethodName := ⟨R_Fb, "areSides", "(III)Z"⟩
abbrev b_Fb_isWithin : ByteArray := prog_1_method_17_code
def y_Fb_isWithin : MethodName := ⟨R_Fb, "isWithin", "(III)Z"⟩
abbrev b_Sh_forget : ByteArray := prog_7_method_2_code
def y_Sh_forget : MethodName := ⟨R_Sh, "forget", "()V"⟩
abbrev b_Ct_add : ByteArray := prog_3_method_2_code
def y_Ct_add : MethodName := ⟨R_Ct, "add", "(IIIII)I"⟩
abbrev b_Lw_part : ByteArray := method_4_code
def y_Lw_part : MethodName := ⟨R_Lw, "part", "(LFlatBoxes;IIIII[J)I"⟩
abbrev b_Fb_part : ByteArray := prog_1_method_3_code
def y_Fb_part : MethodName := ⟨R_Fb, "part", "(IIIII)I"⟩
abbrev b_Pt_add : ByteArray := prog_5_method_2_code
def y_Pt_add : MethodName := ⟨R_Pt, "add", "(IIIII)I"⟩
abbrev b_Pt_sortInByThickness : ByteArray := prog_5_method_3_code
def y_Pt_sortInByThickness : MethodName := ⟨R_Pt, "sortInByThickness", "(I)V"⟩
abbrev b_Pt_sortInByStep : ByteArray := prog_5_method_4_code
def y_Pt_sortInByStep : MethodName := ⟨R_Pt, "sortInByStep", "(I)V"⟩
abbrev b_Lw_fragile : ByteArray := method_5_code
def y_Lw_fragile : MethodName := ⟨R_Lw, "fragile", "(LFlatBoxes;IZ[J)I"⟩
abbrev b_Fb_fragile : ByteArray := prog_1_method_4_code
def y_Fb_fragile : MethodName := ⟨R_Fb, "fragile", "(IZ)Z"⟩
abbrev b_Fb_isPlace : ByteArray := prog_1_method_18_code
def y_Fb_isPlace : MethodName := ⟨R_Fb, "isPlace", "(II)Z"⟩
abbrev b_Lw_fits : ByteArray := method_6_code
def y_Lw_fits : MethodName := ⟨R_Lw, "fits", "(LFlatBoxes;II[J)I"⟩
abbrev b_Fb_fits : ByteArray := prog_1_method_5_code
def y_Fb_fits : MethodName := ⟨R_Fb, "fits", "(II)Z"⟩
abbrev b_Lw_at : ByteArray := method_7_code
def y_Lw_at : MethodName := ⟨R_Lw, "at", "(LFlatBoxes;II[J)I"⟩
abbrev b_Fb_at : ByteArray := prog_1_method_7_code
def y_Fb_at : MethodName := ⟨R_Fb, "at", "(II)I"⟩
abbrev b_Fb_needShares : ByteArray := prog_1_method_16_code
def y_Fb_needShares : MethodName := ⟨R_Fb, "needShares", "()V"⟩
abbrev b_Lw_box : ByteArray := method_8_code
def y_Lw_box : MethodName := ⟨R_Lw, "box", "(LFlatBoxes;II[J)I"⟩
abbrev b_Fb_box : ByteArray := prog_1_method_8_code
def y_Fb_box : MethodName := ⟨R_Fb, "box", "(II)I"⟩
abbrev b_Lw_cost : ByteArray := method_9_code
def y_Lw_cost : MethodName := ⟨R_Lw, "cost", "(LFlatBoxes;[J)I"⟩
abbrev b_Fb_cost : ByteArray := prog_1_method_9_code
def y_Fb_cost : MethodName := ⟨R_Fb, "cost", "()I"⟩
abbrev b_Lw_manual : ByteArray := method_10_code
def y_Lw_manual : MethodName := ⟨R_Lw, "manual", "(LFlatBoxes;I[J)I"⟩
abbrev b_Fb_manual : ByteArray := prog_1_method_10_code
def y_Fb_manual : MethodName := ⟨R_Fb, "manual", "(I)I"⟩
abbrev b_Lw_bag : ByteArray := method_11_code
def y_Lw_bag : MethodName := ⟨R_Lw, "bag", "(LFlatBoxes;[J)I"⟩
abbrev b_Fb_bag : ByteArray := prog_1_method_11_code
def y_Fb_bag : MethodName := ⟨R_Fb, "bag", "()I"⟩
abbrev b_Bg_add : ByteArray := prog_2_method_2_code
def y_Bg_add : MethodName := ⟨R_Bg, "add", "()I"⟩
abbrev b_Lw_into : ByteArray := method_12_code
def y_Lw_into : MethodName := ⟨R_Lw, "into", "(LFlatBoxes;IIII[J)I"⟩
abbrev b_Fb_into : ByteArray := prog_1_method_12_code
def y_Fb_into : MethodName := ⟨R_Fb, "into", "(IIII)I"⟩
abbrev b_Bg_addKind : ByteArray := prog_2_method_3_code
def y_Bg_addKind : MethodName := ⟨R_Bg, "addKind", "(IIII)I"⟩
abbrev b_Lw_counted : ByteArray := method_13_code
def y_Lw_counted : MethodName := ⟨R_Lw, "counted", "(LFlatBoxes;II[J)I"⟩
abbrev b_Fb_counted : ByteArray := prog_1_method_13_code
def y_Fb_counted : MethodName := ⟨R_Fb, "counted", "(II)I"⟩
abbrev b_Bg_judge : ByteArray := prog_2_method_4_code
def y_Bg_judge : MethodName := ⟨R_Bg, "judge", "(II)I"⟩
abbrev b_Bg_isNear : ByteArray := prog_2_method_7_code
def y_Bg_isNear : MethodName := ⟨R_Bg, "isNear", "(III)Z"⟩
abbrev b_Bg_couldHaveOneMore : ByteArray := prog_2_method_5_code
def y_Bg_couldHaveOneMore : MethodName := ⟨R_Bg, "couldHaveOneMore", "(III)Z"⟩
abbrev b_Bg_couldHaveOneLess : ByteArray := prog_2_method_6_code
def y_Bg_couldHaveOneLess : MethodName := ⟨R_Bg, "couldHaveOneLess", "(III)Z"⟩
abbrev b_Lw_raised : ByteArray := method_14_code
def y_Lw_raised : MethodName := ⟨R_Lw, "raised", "(LFlatBoxes;II[J)I"⟩
abbrev b_Fb_raised : ByteArray := prog_1_method_14_code
def y_Fb_raised : MethodName := ⟨R_Fb, "raised", "(II)Z"⟩
abbrev b_Lw_pallets : ByteArray := method_15_code
def y_Lw_pallets : MethodName := ⟨R_Lw, "pallets", "(LFlatBoxes;I[J)I"⟩
abbrev b_Fb_pallets : ByteArray := prog_1_method_15_code
def y_Fb_pallets : MethodName := ⟨R_Fb, "pallets", "(I)I"⟩
abbrev b_Sh_stackOnPallets : ByteArray := prog_7_method_6_code
def y_Sh_stackOnPallets : MethodName := ⟨R_Sh, "stackOnPallets", "(I)I"⟩
abbrev b_Md_init : ByteArray := prog_9_method_1_code
def y_Md_init : MethodName := ⟨R_Md, "<init>", "(I)V"⟩
abbrev b_Md_thrown : ByteArray := prog_9_method_2_code
def y_Md_thrown : MethodName := ⟨R_Md, "thrown", "()I"⟩
abbrev b_Md_carton : ByteArray := prog_9_method_5_code
def y_Md_carton : MethodName := ⟨R_Md, "carton", "(IIIII)I"⟩
abbrev b_Md_isSide : ByteArray := prog_9_method_4_code
def y_Md_isSide : MethodName := ⟨R_Md, "isSide", "(I)Z"⟩
abbrev b_Md_in : ByteArray := prog_9_method_3_code
def y_Md_in : MethodName := ⟨R_Md, "in", "(III)Z"⟩
abbrev b_Md_part : ByteArray := prog_9_method_6_code
def y_Md_part : MethodName := ⟨R_Md, "part", "(IIIII)I"⟩
abbrev b_Md_fragile : ByteArray := prog_9_method_7_code
def y_Md_fragile : MethodName := ⟨R_Md, "fragile", "(IZ)Z"⟩
abbrev b_Md_fits : ByteArray := prog_9_method_13_code
def y_Md_fits : MethodName := ⟨R_Md, "fits", "(II)Z"⟩
abbrev b_Md_pack : ByteArray := prog_9_method_11_code
def y_Md_pack : MethodName := ⟨R_Md, "pack", "(II)Z"⟩
abbrev b_Md_byThickness : ByteArray := prog_9_method_9_code
def y_Md_byThickness : MethodName := ⟨R_Md, "byThickness", "(I)I"⟩
abbrev b_Md_has : ByteArray := prog_9_method_8_code
def y_Md_has : MethodName := ⟨R_Md, "has", "(II)Z"⟩
abbrev b_Md_place : ByteArray := prog_9_method_10_code
def y_Md_place : MethodName := ⟨R_Md, "place", "(II)V"⟩
abbrev b_Md_highOf : ByteArray := prog_9_method_12_code
def y_Md_highOf : MethodName := ⟨R_Md, "highOf", "()I"⟩
abbrev b_Md_run : ByteArray := prog_9_method_18_code
def y_Md_run : MethodName := ⟨R_Md, "run", "()I"⟩
abbrev b_Md_findBoxes : ByteArray := prog_9_method_14_code
def y_Md_findBoxes : MethodName := ⟨R_Md, "findBoxes", "()V"⟩
abbrev b_Md_setsOf : ByteArray := prog_9_method_15_code
def y_Md_setsOf : MethodName := ⟨R_Md, "setsOf", "([I)I"⟩
abbrev b_Md_costOf : ByteArray := prog_9_method_16_code
def y_Md_costOf : MethodName := ⟨R_Md, "costOf", "(I)I"⟩
abbrev b_Md_next : ByteArray := prog_9_method_17_code
def y_Md_next : MethodName := ⟨R_Md, "next", "()Z"⟩
abbrev b_Md_at : ByteArray := prog_9_method_21_code
def y_Md_at : MethodName := ⟨R_Md, "at", "(II)I"⟩
abbrev b_Md_packBox : ByteArray := prog_9_method_19_code
def y_Md_packBox : MethodName := ⟨R_Md, "packBox", "(I)I"⟩
abbrev b_Md_isBelow : ByteArray := prog_9_method_20_code
def y_Md_isBelow : MethodName := ⟨R_Md, "isBelow", "(II)Z"⟩
abbrev b_Md_box : ByteArray := prog_9_method_23_code
def y_Md_box : MethodName := ⟨R_Md, "box", "(II)I"⟩
abbrev b_Md_gramsOf : ByteArray := prog_9_method_22_code
def y_Md_gramsOf : MethodName := ⟨R_Md, "gramsOf", "(I)I"⟩
abbrev b_Md_cost : ByteArray := prog_9_method_24_code
def y_Md_cost : MethodName := ⟨R_Md, "cost", "()I"⟩
abbrev b_Md_manual : ByteArray := prog_9_method_25_code
def y_Md_manual : MethodName := ⟨R_Md, "manual", "(I)I"⟩
abbrev b_Md_bag : ByteArray := prog_9_method_26_code
def y_Md_bag : MethodName := ⟨R_Md, "bag", "()I"⟩
abbrev b_Md_into : ByteArray := prog_9_method_27_code
def y_Md_into : MethodName := ⟨R_Md, "into", "(IIII)I"⟩
abbrev b_Md_counted : ByteArray := prog_9_method_29_code
def y_Md_counted : MethodName := ⟨R_Md, "counted", "(II)I"⟩
abbrev b_Md_isWithin : ByteArray := prog_9_method_28_code
def y_Md_isWithin : MethodName := ⟨R_Md, "isWithin", "(III)Z"⟩
abbrev b_Md_raised : ByteArray := prog_9_method_30_code
def y_Md_raised : MethodName := ⟨R_Md, "raised", "(II)Z"⟩
abbrev b_Md_pallets : ByteArray := prog_9_method_31_code
def y_Md_pallets : MethodName := ⟨R_Md, "pallets", "(I)I"⟩
end
section
/-! the words, by their places: written by wip/gen/names.py -/
theorem k_0 : (Cond.initialized "FlatBoxesLaw") ∈ tables_1 := gT1 (List.mem_of_getElem? (i := 0) rfl)
theorem k_1 : (Cond.initialized "FlatBoxes") ∈ tables_1 := gT1 (List.mem_of_getElem? (i := 1) rfl)
theorem k_2 : (Cond.initialized "FlatBoxes$Cartons") ∈ tables_1 := gT1 (List.mem_of_getElem? (i := 2) rfl)
theorem k_3 : (Cond.initialized "FlatBoxes$Parts") ∈ tables_1 := gT1 (List.mem_of_getElem? (i := 3) rfl)
theorem k_4 : (Cond.initialized "FlatBoxes$Packing") ∈ tables_1 := gT1 (List.mem_of_getElem? (i := 4) rfl)
theorem k_5 : (Cond.initialized "java/lang/Math") ∈ tables_1 := gT1 (List.mem_of_getElem? (i := 5) rfl)
theorem k_6 : (Cond.initialized "FlatBoxes$Search") ∈ tables_1 := gT1 (List.mem_of_getElem? (i := 6) rfl)
theorem k_7 : (Cond.initialized "FlatBoxes$Shares") ∈ tables_1 := gT1 (List.mem_of_getElem? (i := 7) rfl)
theorem k_8 : (Cond.initialized "FlatBoxes$Bags") ∈ tables_1 := gT1 (List.mem_of_getElem? (i := 8) rfl)
theorem k_9 : (Cond.initialized "FlatBoxesModel") ∈ tables_1 := gT1 (List.mem_of_getElem? (i := 9) rfl)
theorem k_10 : (Cond.initialized "java/lang/Throwable") ∈ tables_1 := gT1 (List.mem_of_getElem? (i := 10) rfl)
theorem k_11 : (Cond.initialized "java/lang/Exception") ∈ tables_1 := gT1 (List.mem_of_getElem? (i := 11) rfl)
theorem k_12 : (Cond.initialized "java/lang/RuntimeException") ∈ tables_1 := gT1 (List.mem_of_getElem? (i := 12) rfl)
theorem k_13 : (Cond.initialized "java/lang/IllegalArgumentException") ∈ tables_1 := gT1 (List.mem_of_getElem? (i := 13) rfl)
theorem k_14 : (Cond.initialized "java/lang/IllegalStateException") ∈ tables_1 := gT1 (List.mem_of_getElem? (i := 14) rfl)
theorem k_15 : (Cond.initialized "java/lang/IndexOutOfBoundsException") ∈ tables_1 := gT1 (List.mem_of_getElem? (i := 15) rfl)
theorem k_16 : (Cond.initialized "java/lang/System") ∈ tables_1 := gT1 (List.mem_of_getElem? (i := 16) rfl)
theorem k_17 : (Cond.initialized "java/lang/Integer") ∈ tables_1 := gT1 (List.mem_of_getElem? (i := 17) rfl)
theorem k_18 : (Cond.classLink "FlatBoxesLaw" (8 : Nat) "FlatBoxes") ∈ tables_1 := gT1 (List.mem_of_getElem? (i := 18) rfl)
theorem k_19 : (Cond.instantiable "FlatBoxes" (6 : Nat)) ∈ tables_1 := gT1 (List.mem_of_getElem? (i := 19) rfl)
theorem k_20 : (Cond.methodLink "FlatBoxesLaw" (67 : Nat) ({ cls := "FlatBoxes", name := "<init>", desc := "(I)V" } : MethodName)) ∈ tables_1 := gT1 (List.mem_of_getElem? (i := 20) rfl)
theorem k_21 : (Cond.instanceMethod ({ cls := "FlatBoxes", name := "<init>", desc := "(I)V" } : MethodName)) ∈ tables_1 := gT1 (List.mem_of_getElem? (i := 21) rfl)
theorem k_22 : (Cond.code ({ cls := "FlatBoxes", name := "<init>", desc := "(I)V" } : MethodName) prog_1_method_1_code (2 : Nat) (Option.none : Option ClassFile.FieldType)) ∈ tables_1 := gT1 (List.mem_of_getElem? (i := 22) rfl)
theorem k_23 : (Cond.methodLink "FlatBoxes" (3 : Nat) ({ cls := "java/lang/Object", name := "<init>", desc := "()V" } : MethodName)) ∈ tables_1 := gT1 (List.mem_of_getElem? (i := 23) rfl)
theorem k_24 : (Cond.instanceMethod ({ cls := "java/lang/Object", name := "<init>", desc := "()V" } : MethodName)) ∈ tables_1 := gT1 (List.mem_of_getElem? (i := 24) rfl)
theorem k_25 : (Cond.code ({ cls := "java/lang/Object", name := "<init>", desc := "()V" } : MethodName) object_method_1_code (1 : Nat) (Option.none : Option ClassFile.FieldType)) ∈ tables_1 := gT1 (List.mem_of_getElem? (i := 25) rfl)
theorem k_26 : (Cond.classLink "FlatBoxes" (9 : Nat) "FlatBoxes$Cartons") ∈ tables_1 := gT1 (List.mem_of_getElem? (i := 26) rfl)
theorem k_27 : (Cond.instantiable "FlatBoxes$Cartons" (6 : Nat)) ∈ tables_1 := gT1 (List.mem_of_getElem? (i := 27) rfl)
theorem k_28 : (Cond.methodLinkNest "FlatBoxes" (11 : Nat) ({ cls := "FlatBoxes$Cartons", name := "<init>", desc := "()V" } : MethodName) "FlatBoxes") ∈ tables_1 := gT1 (List.mem_of_getElem? (i := 28) rfl)
theorem k_29 : (Cond.instanceMethod ({ cls := "FlatBoxes$Cartons", name := "<init>", desc := "()V" } : MethodName)) ∈ tables_1 := gT1 (List.mem_of_getElem? (i := 29) rfl)
theorem k_30 : (Cond.code ({ cls := "FlatBoxes$Cartons", name := "<init>", desc := "()V" } : MethodName) prog_3_method_1_code (1 : Nat) (Option.none : Option ClassFile.FieldType)) ∈ tables_1 := gT1 (List.mem_of_getElem? (i := 30) rfl)
theorem k_31 : (Cond.methodLink "FlatBoxes$Cartons" (3 : Nat) ({ cls := "java/lang/Object", name := "<init>", desc := "()V" } : MethodName)) ∈ tables_1 := gT1 (List.mem_of_getElem? (i := 31) rfl)
theorem k_32 : (Cond.fieldLink "FlatBoxes$Cartons" (9 : Nat) "FlatBoxes$Cartons" "width" "[I") ∈ tables_1 := gT1 (List.mem_of_getElem? (i := 32) rfl)
theorem k_33 : (Cond.fieldLink "FlatBoxes$Packing" (47 : Nat) "FlatBoxes$Cartons" "width" "[I") ∈ tables_1 := gT1 (List.mem_of_getElem? (i := 33) rfl)
theorem k_34 : (Cond.fieldLink "FlatBoxes$Shares" (42 : Nat) "FlatBoxes$Cartons" "width" "[I") ∈ tables_1 := gT1 (List.mem_of_getElem? (i := 34) rfl)
theorem k_35 : (Cond.fieldLink "FlatBoxes$Cartons" (15 : Nat) "FlatBoxes$Cartons" "depth" "[I") ∈ tables_1 := gT1 (List.mem_of_getElem? (i := 35) rfl)
theorem k_36 : (Cond.fieldLink "FlatBoxes$Packing" (50 : Nat) "FlatBoxes$Cartons" "depth" "[I") ∈ tables_1 := gT1 (List.mem_of_getElem? (i := 36) rfl)
theorem k_37 : (Cond.fieldLink "FlatBoxes" (194 : Nat) "FlatBoxes$Cartons" "depth" "[I") ∈ tables_1 := gT1 (List.mem_of_getElem? (i := 37) rfl)
theorem k_38 : (Cond.fieldLink "FlatBoxes$Cartons" (18 : Nat) "FlatBoxes$Cartons" "height" "[I") ∈ tables_1 := gT1 (List.mem_of_getElem? (i := 38) rfl)
theorem k_39 : (Cond.fieldLink "FlatBoxes$Packing" (65 : Nat) "FlatBoxes$Cartons" "height" "[I") ∈ tables_1 := gT1 (List.mem_of_getElem? (i := 39) rfl)
theorem k_40 : (Cond.fieldLink "FlatBoxes" (197 : Nat) "FlatBoxes$Cartons" "height" "[I") ∈ tables_1 := gT1 (List.mem_of_getElem? (i := 40) rfl)
theorem k_41 : (Cond.fieldLink "FlatBoxes$Cartons" (21 : Nat) "FlatBoxes$Cartons" "cents" "[I") ∈ tables_1 := gT1 (List.mem_of_getElem? (i := 41) rfl)
theorem k_42 : (Cond.fieldLink "FlatBoxes$Search" (64 : Nat) "FlatBoxes$Cartons" "cents" "[I") ∈ tables_1 := gT1 (List.mem_of_getElem? (i := 42) rfl)
theorem k_43 : (Cond.fieldLink "FlatBoxes$Shares" (54 : Nat) "FlatBoxes$Cartons" "cents" "[I") ∈ tables_1 := gT1 (List.mem_of_getElem? (i := 43) rfl)
theorem k_44 : (Cond.fieldLink "FlatBoxes$Cartons" (24 : Nat) "FlatBoxes$Cartons" "grams" "[I") ∈ tables_1 := gT1 (List.mem_of_getElem? (i := 44) rfl)
theorem k_45 : (Cond.fieldLink "FlatBoxes$Packing" (44 : Nat) "FlatBoxes$Cartons" "grams" "[I") ∈ tables_1 := gT1 (List.mem_of_getElem? (i := 45) rfl)
theorem k_46 : (Cond.fieldLink "FlatBoxes$Cartons" (27 : Nat) "FlatBoxes$Cartons" "count" "I") ∈ tables_1 := gT1 (List.mem_of_getElem? (i := 46) rfl)
theorem k_47 : (Cond.fieldLink "FlatBoxes" (79 : Nat) "FlatBoxes$Cartons" "count" "I") ∈ tables_1 := gT1 (List.mem_of_getElem? (i := 47) rfl)
theorem k_48 : (Cond.fieldLink "FlatBoxes$Search" (61 : Nat) "FlatBoxes$Cartons" "count" "I") ∈ tables_1 := gT1 (List.mem_of_getElem? (i := 48) rfl)
theorem k_49 : (Cond.laysFinal "FlatBoxes$Cartons" "FlatBoxes$Cartons" "width" "[I") ∈ tables_1 := gT1 (List.mem_of_getElem? (i := 49) rfl)
theorem k_50 : (Cond.soleField "FlatBoxes$Cartons" "width") ∈ tables_1 := gT1 (List.mem_of_getElem? (i := 50) rfl)
theorem k_51 : (Cond.laysFinal "FlatBoxes$Cartons" "FlatBoxes$Cartons" "depth" "[I") ∈ tables_1 := gT1 (List.mem_of_getElem? (i := 51) rfl)
theorem k_52 : (Cond.soleField "FlatBoxes$Cartons" "depth") ∈ tables_1 := gT1 (List.mem_of_getElem? (i := 52) rfl)
theorem k_53 : (Cond.laysFinal "FlatBoxes$Cartons" "FlatBoxes$Cartons" "height" "[I") ∈ tables_1 := gT1 (List.mem_of_getElem? (i := 53) rfl)
theorem k_54 : (Cond.soleField "FlatBoxes$Cartons" "height") ∈ tables_1 := gT1 (List.mem_of_getElem? (i := 54) rfl)
theorem k_55 : (Cond.laysFinal "FlatBoxes$Cartons" "FlatBoxes$Cartons" "cents" "[I") ∈ tables_1 := gT1 (List.mem_of_getElem? (i := 55) rfl)
theorem k_56 : (Cond.soleField "FlatBoxes$Cartons" "cents") ∈ tables_1 := gT1 (List.mem_of_getElem? (i := 56) rfl)
theorem k_57 : (Cond.laysFinal "FlatBoxes$Cartons" "FlatBoxes$Cartons" "grams" "[I") ∈ tables_1 := gT1 (List.mem_of_getElem? (i := 57) rfl)
theorem k_58 : (Cond.soleField "FlatBoxes$Cartons" "grams") ∈ tables_1 := gT1 (List.mem_of_getElem? (i := 58) rfl)
theorem k_59 : (Cond.lays "FlatBoxes$Cartons" "FlatBoxes$Cartons" "count" "I") ∈ tables_1 := gT1 (List.mem_of_getElem? (i := 59) rfl)
theorem k_60 : (Cond.soleField "FlatBoxes$Cartons" "count") ∈ tables_1 := gT1 (List.mem_of_getElem? (i := 60) rfl)
theorem k_61 : (Cond.superclass "FlatBoxes$Cartons" "java/lang/Object") ∈ tables_1 := gT1 (List.mem_of_getElem? (i := 61) rfl)
theorem k_62 : (Cond.arrayClass FieldType.int) ∈ tables_1 := gT1 (List.mem_of_getElem? (i := 62) rfl)
theorem k_63 : (Cond.classLink "FlatBoxes" (16 : Nat) "FlatBoxes$Parts") ∈ tables_1 := gT1 (List.mem_of_getElem? (i := 63) rfl)
theorem k_64 : (Cond.instantiable "FlatBoxes$Parts" (9 : Nat)) ∈ tables_1 := gT1 (List.mem_of_getElem? (i := 64) rfl)
theorem k_65 : (Cond.methodLinkNest "FlatBoxes" (18 : Nat) ({ cls := "FlatBoxes$Parts", name := "<init>", desc := "()V" } : MethodName) "FlatBoxes") ∈ tables_1 := gT1 (List.mem_of_getElem? (i := 65) rfl)
theorem k_66 : (Cond.instanceMethod ({ cls := "FlatBoxes$Parts", name := "<init>", desc := "()V" } : MethodName)) ∈ tables_1 := gT1 (List.mem_of_getElem? (i := 66) rfl)
theorem k_67 : (Cond.code ({ cls := "FlatBoxes$Parts", name := "<init>", desc := "()V" } : MethodName) prog_5_method_1_code (1 : Nat) (Option.none : Option ClassFile.FieldType)) ∈ tables_1 := gT1 (List.mem_of_getElem? (i := 67) rfl)
theorem k_68 : (Cond.methodLink "FlatBoxes$Parts" (3 : Nat) ({ cls := "java/lang/Object", name := "<init>", desc := "()V" } : MethodName)) ∈ tables_1 := gT1 (List.mem_of_getElem? (i := 68) rfl)
theorem k_69 : (Cond.fieldLink "FlatBoxes$Parts" (9 : Nat) "FlatBoxes$Parts" "width" "[I") ∈ tables_1 := gT1 (List.mem_of_getElem? (i := 69) rfl)
theorem k_70 : (Cond.fieldLink "FlatBoxes$Packing" (83 : Nat) "FlatBoxes$Parts" "width" "[I") ∈ tables_1 := gT1 (List.mem_of_getElem? (i := 70) rfl)
theorem k_71 : (Cond.fieldLink "FlatBoxes$Parts" (15 : Nat) "FlatBoxes$Parts" "depth" "[I") ∈ tables_1 := gT1 (List.mem_of_getElem? (i := 71) rfl)
theorem k_72 : (Cond.fieldLink "FlatBoxes$Parts" (18 : Nat) "FlatBoxes$Parts" "thick" "[I") ∈ tables_1 := gT1 (List.mem_of_getElem? (i := 72) rfl)
theorem k_73 : (Cond.fieldLink "FlatBoxes$Packing" (91 : Nat) "FlatBoxes$Parts" "thick" "[I") ∈ tables_1 := gT1 (List.mem_of_getElem? (i := 73) rfl)
theorem k_74 : (Cond.fieldLink "FlatBoxes$Parts" (21 : Nat) "FlatBoxes$Parts" "grams" "[I") ∈ tables_1 := gT1 (List.mem_of_getElem? (i := 74) rfl)
theorem k_75 : (Cond.fieldLink "FlatBoxes$Packing" (96 : Nat) "FlatBoxes$Parts" "grams" "[I") ∈ tables_1 := gT1 (List.mem_of_getElem? (i := 75) rfl)
theorem k_76 : (Cond.fieldLink "FlatBoxes$Parts" (24 : Nat) "FlatBoxes$Parts" "step" "[I") ∈ tables_1 := gT1 (List.mem_of_getElem? (i := 76) rfl)
theorem k_77 : (Cond.fieldLink "FlatBoxes$Packing" (97 : Nat) "FlatBoxes$Parts" "step" "[I") ∈ tables_1 := gT1 (List.mem_of_getElem? (i := 77) rfl)
theorem k_78 : (Cond.fieldLink "FlatBoxes$Parts" (27 : Nat) "FlatBoxes$Parts" "fragile" "[Z") ∈ tables_1 := gT1 (List.mem_of_getElem? (i := 78) rfl)
theorem k_79 : (Cond.fieldLink "FlatBoxes" (111 : Nat) "FlatBoxes$Parts" "fragile" "[Z") ∈ tables_1 := gT1 (List.mem_of_getElem? (i := 79) rfl)
theorem k_80 : (Cond.fieldLink "FlatBoxes$Packing" (105 : Nat) "FlatBoxes$Parts" "fragile" "[Z") ∈ tables_1 := gT1 (List.mem_of_getElem? (i := 80) rfl)
theorem k_81 : (Cond.fieldLink "FlatBoxes$Parts" (31 : Nat) "FlatBoxes$Parts" "byThickness" "[I") ∈ tables_1 := gT1 (List.mem_of_getElem? (i := 81) rfl)
theorem k_82 : (Cond.fieldLink "FlatBoxes$Packing" (76 : Nat) "FlatBoxes$Parts" "byThickness" "[I") ∈ tables_1 := gT1 (List.mem_of_getElem? (i := 82) rfl)
theorem k_83 : (Cond.fieldLink "FlatBoxes$Parts" (34 : Nat) "FlatBoxes$Parts" "byStep" "[I") ∈ tables_1 := gT1 (List.mem_of_getElem? (i := 83) rfl)
theorem k_84 : (Cond.fieldLink "FlatBoxes" (161 : Nat) "FlatBoxes$Parts" "byStep" "[I") ∈ tables_1 := gT1 (List.mem_of_getElem? (i := 84) rfl)
theorem k_85 : (Cond.fieldLink "FlatBoxes$Parts" (37 : Nat) "FlatBoxes$Parts" "count" "I") ∈ tables_1 := gT1 (List.mem_of_getElem? (i := 85) rfl)
theorem k_86 : (Cond.fieldLink "FlatBoxes$Search" (24 : Nat) "FlatBoxes$Parts" "count" "I") ∈ tables_1 := gT1 (List.mem_of_getElem? (i := 86) rfl)
theorem k_87 : (Cond.fieldLink "FlatBoxes$Packing" (73 : Nat) "FlatBoxes$Parts" "count" "I") ∈ tables_1 := gT1 (List.mem_of_getElem? (i := 87) rfl)
theorem k_88 : (Cond.fieldLink "FlatBoxes" (98 : Nat) "FlatBoxes$Parts" "count" "I") ∈ tables_1 := gT1 (List.mem_of_getElem? (i := 88) rfl)
theorem k_89 : (Cond.fieldLink "FlatBoxes$Shares" (79 : Nat) "FlatBoxes$Parts" "count" "I") ∈ tables_1 := gT1 (List.mem_of_getElem? (i := 89) rfl)
theorem k_90 : (Cond.laysFinal "FlatBoxes$Parts" "FlatBoxes$Parts" "width" "[I") ∈ tables_1 := gT1 (List.mem_of_getElem? (i := 90) rfl)
theorem k_91 : (Cond.soleField "FlatBoxes$Parts" "width") ∈ tables_1 := gT1 (List.mem_of_getElem? (i := 91) rfl)
theorem k_92 : (Cond.laysFinal "FlatBoxes$Parts" "FlatBoxes$Parts" "depth" "[I") ∈ tables_1 := gT1 (List.mem_of_getElem? (i := 92) rfl)
theorem k_93 : (Cond.soleField "FlatBoxes$Parts" "depth") ∈ tables_1 := gT1 (List.mem_of_getElem? (i := 93) rfl)
theorem k_94 : (Cond.laysFinal "FlatBoxes$Parts" "FlatBoxes$Parts" "thick" "[I") ∈ tables_1 := gT1 (List.mem_of_getElem? (i := 94) rfl)
theorem k_95 : (Cond.soleField "FlatBoxes$Parts" "thick") ∈ tables_1 := gT1 (List.mem_of_getElem? (i := 95) rfl)
theorem k_96 : (Cond.laysFinal "FlatBoxes$Parts" "FlatBoxes$Parts" "grams" "[I") ∈ tables_1 := gT1 (List.mem_of_getElem? (i := 96) rfl)
theorem k_97 : (Cond.soleField "FlatBoxes$Parts" "grams") ∈ tables_1 := gT1 (List.mem_of_getElem? (i := 97) rfl)
theorem k_98 : (Cond.laysFinal "FlatBoxes$Parts" "FlatBoxes$Parts" "step" "[I") ∈ tables_1 := gT1 (List.mem_of_getElem? (i := 98) rfl)
theorem k_99 : (Cond.soleField "FlatBoxes$Parts" "step") ∈ tables_1 := gT1 (List.mem_of_getElem? (i := 99) rfl)
theorem k_100 : (Cond.laysFinal "FlatBoxes$Parts" "FlatBoxes$Parts" "fragile" "[Z") ∈ tables_1 := gT1 (List.mem_of_getElem? (i := 100) rfl)
theorem k_101 : (Cond.soleField "FlatBoxes$Parts" "fragile") ∈ tables_1 := gT1 (List.mem_of_getElem? (i := 101) rfl)
theorem k_102 : (Cond.laysFinal "FlatBoxes$Parts" "FlatBoxes$Parts" "byThickness" "[I") ∈ tables_1 := gT1 (List.mem_of_getElem? (i := 102) rfl)
theorem k_103 : (Cond.soleField "FlatBoxes$Parts" "byThickness") ∈ tables_1 := gT1 (List.mem_of_getElem? (i := 103) rfl)
theorem k_104 : (Cond.laysFinal "FlatBoxes$Parts" "FlatBoxes$Parts" "byStep" "[I") ∈ tables_1 := gT1 (List.mem_of_getElem? (i := 104) rfl)
theorem k_105 : (Cond.soleField "FlatBoxes$Parts" "byStep") ∈ tables_1 := gT1 (List.mem_of_getElem? (i := 105) rfl)
theorem k_106 : (Cond.lays "FlatBoxes$Parts" "FlatBoxes$Parts" "count" "I") ∈ tables_1 := gT1 (List.mem_of_getElem? (i := 106) rfl)
theorem k_107 : (Cond.soleField "FlatBoxes$Parts" "count") ∈ tables_1 := gT1 (List.mem_of_getElem? (i := 107) rfl)
theorem k_108 : (Cond.superclass "FlatBoxes$Parts" "java/lang/Object") ∈ tables_1 := gT1 (List.mem_of_getElem? (i := 108) rfl)
theorem k_109 : (Cond.arrayClass FieldType.boolean) ∈ tables_1 := gT1 (List.mem_of_getElem? (i := 109) rfl)
theorem k_110 : (Cond.classLink "FlatBoxes" (23 : Nat) "FlatBoxes$Packing") ∈ tables_1 := gT1 (List.mem_of_getElem? (i := 110) rfl)
theorem k_111 : (Cond.instantiable "FlatBoxes$Packing" (9 : Nat)) ∈ tables_1 := gT1 (List.mem_of_getElem? (i := 111) rfl)
theorem k_112 : (Cond.methodLink "FlatBoxes" (25 : Nat) ({ cls := "java/lang/Math", name := "max", desc := "(II)I" } : MethodName)) ∈ tables_1 := gT1 (List.mem_of_getElem? (i := 112) rfl)
theorem k_113 : (Cond.static ({ cls := "java/lang/Math", name := "max", desc := "(II)I" } : MethodName)) ∈ tables_1 := gT1 (List.mem_of_getElem? (i := 113) rfl)
theorem k_114 : (Cond.code ({ cls := "java/lang/Math", name := "max", desc := "(II)I" } : MethodName) prog_15_method_65_code (2 : Nat) (Option.some FieldType.int)) ∈ tables_1 := gT1 (List.mem_of_getElem? (i := 114) rfl)
theorem k_115 : (Cond.methodLink "FlatBoxes" (31 : Nat) ({ cls := "java/lang/Math", name := "min", desc := "(II)I" } : MethodName)) ∈ tables_1 := gT1 (List.mem_of_getElem? (i := 115) rfl)
theorem k_116 : (Cond.static ({ cls := "java/lang/Math", name := "min", desc := "(II)I" } : MethodName)) ∈ tables_1 := gT1 (List.mem_of_getElem? (i := 116) rfl)
theorem k_117 : (Cond.code ({ cls := "java/lang/Math", name := "min", desc := "(II)I" } : MethodName) prog_15_method_69_code (2 : Nat) (Option.some FieldType.int)) ∈ tables_1 := gT1 (List.mem_of_getElem? (i := 117) rfl)
theorem k_118 : (Cond.methodLink "FlatBoxes" (34 : Nat) ({ cls := "FlatBoxes$Packing", name := "<init>", desc := "(I)V" } : MethodName)) ∈ tables_1 := gT1 (List.mem_of_getElem? (i := 118) rfl)
theorem k_119 : (Cond.instanceMethod ({ cls := "FlatBoxes$Packing", name := "<init>", desc := "(I)V" } : MethodName)) ∈ tables_1 := gT1 (List.mem_of_getElem? (i := 119) rfl)
theorem k_120 : (Cond.code ({ cls := "FlatBoxes$Packing", name := "<init>", desc := "(I)V" } : MethodName) prog_4_method_1_code (2 : Nat) (Option.none : Option ClassFile.FieldType)) ∈ tables_1 := gT1 (List.mem_of_getElem? (i := 120) rfl)
theorem k_121 : (Cond.methodLink "FlatBoxes$Packing" (3 : Nat) ({ cls := "java/lang/Object", name := "<init>", desc := "()V" } : MethodName)) ∈ tables_1 := gT1 (List.mem_of_getElem? (i := 121) rfl)
theorem k_122 : (Cond.fieldLink "FlatBoxes$Packing" (34 : Nat) "FlatBoxes$Packing" "gap" "I") ∈ tables_1 := gT1 (List.mem_of_getElem? (i := 122) rfl)
theorem k_123 : (Cond.fieldLink "FlatBoxes$Packing" (9 : Nat) "FlatBoxes$Packing" "end" "[I") ∈ tables_1 := gT1 (List.mem_of_getElem? (i := 123) rfl)
theorem k_124 : (Cond.fieldLink "FlatBoxes$Packing" (15 : Nat) "FlatBoxes$Packing" "thick" "[I") ∈ tables_1 := gT1 (List.mem_of_getElem? (i := 124) rfl)
theorem k_125 : (Cond.fieldLink "FlatBoxes$Packing" (18 : Nat) "FlatBoxes$Packing" "grams" "[I") ∈ tables_1 := gT1 (List.mem_of_getElem? (i := 125) rfl)
theorem k_126 : (Cond.fieldLink "FlatBoxes$Packing" (21 : Nat) "FlatBoxes$Packing" "firstStep" "[I") ∈ tables_1 := gT1 (List.mem_of_getElem? (i := 126) rfl)
theorem k_127 : (Cond.fieldLink "FlatBoxes$Packing" (24 : Nat) "FlatBoxes$Packing" "fragile" "[Z") ∈ tables_1 := gT1 (List.mem_of_getElem? (i := 127) rfl)
theorem k_128 : (Cond.fieldLink "FlatBoxes$Packing" (28 : Nat) "FlatBoxes$Packing" "layerOf" "[I") ∈ tables_1 := gT1 (List.mem_of_getElem? (i := 128) rfl)
theorem k_129 : (Cond.fieldLink "FlatBoxes$Shares" (86 : Nat) "FlatBoxes$Packing" "layerOf" "[I") ∈ tables_1 := gT1 (List.mem_of_getElem? (i := 129) rfl)
theorem k_130 : (Cond.fieldLink "FlatBoxes$Packing" (31 : Nat) "FlatBoxes$Packing" "xOf" "[I") ∈ tables_1 := gT1 (List.mem_of_getElem? (i := 130) rfl)
theorem k_131 : (Cond.fieldLink "FlatBoxes$Shares" (92 : Nat) "FlatBoxes$Packing" "xOf" "[I") ∈ tables_1 := gT1 (List.mem_of_getElem? (i := 131) rfl)
theorem k_132 : (Cond.fieldLink "FlatBoxes$Packing" (70 : Nat) "FlatBoxes$Packing" "layers" "I") ∈ tables_1 := gT1 (List.mem_of_getElem? (i := 132) rfl)
theorem k_133 : (Cond.fieldLink "FlatBoxes$Shares" (73 : Nat) "FlatBoxes$Packing" "layers" "I") ∈ tables_1 := gT1 (List.mem_of_getElem? (i := 133) rfl)
theorem k_134 : (Cond.laysFinal "FlatBoxes$Packing" "FlatBoxes$Packing" "gap" "I") ∈ tables_1 := gT1 (List.mem_of_getElem? (i := 134) rfl)
theorem k_135 : (Cond.soleField "FlatBoxes$Packing" "gap") ∈ tables_1 := gT1 (List.mem_of_getElem? (i := 135) rfl)
theorem k_136 : (Cond.laysFinal "FlatBoxes$Packing" "FlatBoxes$Packing" "end" "[I") ∈ tables_1 := gT1 (List.mem_of_getElem? (i := 136) rfl)
theorem k_137 : (Cond.soleField "FlatBoxes$Packing" "end") ∈ tables_1 := gT1 (List.mem_of_getElem? (i := 137) rfl)
theorem k_138 : (Cond.laysFinal "FlatBoxes$Packing" "FlatBoxes$Packing" "thick" "[I") ∈ tables_1 := gT1 (List.mem_of_getElem? (i := 138) rfl)
theorem k_139 : (Cond.soleField "FlatBoxes$Packing" "thick") ∈ tables_1 := gT1 (List.mem_of_getElem? (i := 139) rfl)
theorem k_140 : (Cond.laysFinal "FlatBoxes$Packing" "FlatBoxes$Packing" "grams" "[I") ∈ tables_1 := gT1 (List.mem_of_getElem? (i := 140) rfl)
theorem k_141 : (Cond.soleField "FlatBoxes$Packing" "grams") ∈ tables_1 := gT1 (List.mem_of_getElem? (i := 141) rfl)
theorem k_142 : (Cond.laysFinal "FlatBoxes$Packing" "FlatBoxes$Packing" "firstStep" "[I") ∈ tables_1 := gT1 (List.mem_of_getElem? (i := 142) rfl)
theorem k_143 : (Cond.soleField "FlatBoxes$Packing" "firstStep") ∈ tables_1 := gT1 (List.mem_of_getElem? (i := 143) rfl)
theorem k_144 : (Cond.laysFinal "FlatBoxes$Packing" "FlatBoxes$Packing" "fragile" "[Z") ∈ tables_1 := gT1 (List.mem_of_getElem? (i := 144) rfl)
theorem k_145 : (Cond.soleField "FlatBoxes$Packing" "fragile") ∈ tables_1 := gT1 (List.mem_of_getElem? (i := 145) rfl)
theorem k_146 : (Cond.laysFinal "FlatBoxes$Packing" "FlatBoxes$Packing" "layerOf" "[I") ∈ tables_1 := gT1 (List.mem_of_getElem? (i := 146) rfl)
theorem k_147 : (Cond.soleField "FlatBoxes$Packing" "layerOf") ∈ tables_1 := gT1 (List.mem_of_getElem? (i := 147) rfl)
theorem k_148 : (Cond.laysFinal "FlatBoxes$Packing" "FlatBoxes$Packing" "xOf" "[I") ∈ tables_1 := gT1 (List.mem_of_getElem? (i := 148) rfl)
theorem k_149 : (Cond.soleField "FlatBoxes$Packing" "xOf") ∈ tables_1 := gT1 (List.mem_of_getElem? (i := 149) rfl)
theorem k_150 : (Cond.lays "FlatBoxes$Packing" "FlatBoxes$Packing" "layers" "I") ∈ tables_1 := gT1 (List.mem_of_getElem? (i := 150) rfl)
theorem k_151 : (Cond.soleField "FlatBoxes$Packing" "layers") ∈ tables_1 := gT1 (List.mem_of_getElem? (i := 151) rfl)
theorem k_152 : (Cond.superclass "FlatBoxes$Packing" "java/lang/Object") ∈ tables_1 := gT1 (List.mem_of_getElem? (i := 152) rfl)
theorem k_153 : (Cond.classLink "FlatBoxes" (41 : Nat) "FlatBoxes$Search") ∈ tables_1 := gT1 (List.mem_of_getElem? (i := 153) rfl)
theorem k_154 : (Cond.instantiable "FlatBoxes$Search" (8 : Nat)) ∈ tables_1 := gT1 (List.mem_of_getElem? (i := 154) rfl)
theorem k_155 : (Cond.methodLinkNest "FlatBoxes" (43 : Nat) ({ cls := "FlatBoxes$Search", name := "<init>", desc := "()V" } : MethodName) "FlatBoxes") ∈ tables_1 := gT1 (List.mem_of_getElem? (i := 155) rfl)
theorem k_156 : (Cond.instanceMethod ({ cls := "FlatBoxes$Search", name := "<init>", desc := "()V" } : MethodName)) ∈ tables_1 := gT1 (List.mem_of_getElem? (i := 156) rfl)
theorem k_157 : (Cond.code ({ cls := "FlatBoxes$Search", name := "<init>", desc := "()V" } : MethodName) prog_6_method_1_code (1 : Nat) (Option.none : Option ClassFile.FieldType)) ∈ tables_1 := gT1 (List.mem_of_getElem? (i := 157) rfl)
theorem k_158 : (Cond.methodLink "FlatBoxes$Search" (3 : Nat) ({ cls := "java/lang/Object", name := "<init>", desc := "()V" } : MethodName)) ∈ tables_1 := gT1 (List.mem_of_getElem? (i := 158) rfl)
theorem k_159 : (Cond.fieldLink "FlatBoxes$Search" (9 : Nat) "FlatBoxes$Search" "cartonOf" "[I") ∈ tables_1 := gT1 (List.mem_of_getElem? (i := 159) rfl)
theorem k_160 : (Cond.fieldLink "FlatBoxes$Search" (15 : Nat) "FlatBoxes$Search" "priceOf" "[I") ∈ tables_1 := gT1 (List.mem_of_getElem? (i := 160) rfl)
theorem k_161 : (Cond.fieldLink "FlatBoxes$Search" (18 : Nat) "FlatBoxes$Search" "sets" "[I") ∈ tables_1 := gT1 (List.mem_of_getElem? (i := 161) rfl)
theorem k_162 : (Cond.fieldLink "FlatBoxes$Search" (21 : Nat) "FlatBoxes$Search" "bestSets" "[I") ∈ tables_1 := gT1 (List.mem_of_getElem? (i := 162) rfl)
theorem k_163 : (Cond.fieldLink "FlatBoxes$Search" (30 : Nat) "FlatBoxes$Search" "parts" "I") ∈ tables_1 := gT1 (List.mem_of_getElem? (i := 163) rfl)
theorem k_164 : (Cond.fieldLink "FlatBoxes$Search" (34 : Nat) "FlatBoxes$Search" "leastPrice" "I") ∈ tables_1 := gT1 (List.mem_of_getElem? (i := 164) rfl)
theorem k_165 : (Cond.fieldLink "FlatBoxes$Search" (51 : Nat) "FlatBoxes$Search" "bestPrice" "I") ∈ tables_1 := gT1 (List.mem_of_getElem? (i := 165) rfl)
theorem k_166 : (Cond.fieldLink "FlatBoxes$Search" (54 : Nat) "FlatBoxes$Search" "bestBoxes" "I") ∈ tables_1 := gT1 (List.mem_of_getElem? (i := 166) rfl)
theorem k_167 : (Cond.laysFinal "FlatBoxes$Search" "FlatBoxes$Search" "cartonOf" "[I") ∈ tables_1 := gT1 (List.mem_of_getElem? (i := 167) rfl)
theorem k_168 : (Cond.soleField "FlatBoxes$Search" "cartonOf") ∈ tables_1 := gT1 (List.mem_of_getElem? (i := 168) rfl)
theorem k_169 : (Cond.laysFinal "FlatBoxes$Search" "FlatBoxes$Search" "priceOf" "[I") ∈ tables_1 := gT1 (List.mem_of_getElem? (i := 169) rfl)
theorem k_170 : (Cond.soleField "FlatBoxes$Search" "priceOf") ∈ tables_1 := gT1 (List.mem_of_getElem? (i := 170) rfl)
theorem k_171 : (Cond.laysFinal "FlatBoxes$Search" "FlatBoxes$Search" "sets" "[I") ∈ tables_1 := gT1 (List.mem_of_getElem? (i := 171) rfl)
theorem k_172 : (Cond.soleField "FlatBoxes$Search" "sets") ∈ tables_1 := gT1 (List.mem_of_getElem? (i := 172) rfl)
theorem k_173 : (Cond.laysFinal "FlatBoxes$Search" "FlatBoxes$Search" "bestSets" "[I") ∈ tables_1 := gT1 (List.mem_of_getElem? (i := 173) rfl)
theorem k_174 : (Cond.soleField "FlatBoxes$Search" "bestSets") ∈ tables_1 := gT1 (List.mem_of_getElem? (i := 174) rfl)
theorem k_175 : (Cond.lays "FlatBoxes$Search" "FlatBoxes$Search" "parts" "I") ∈ tables_1 := gT1 (List.mem_of_getElem? (i := 175) rfl)
theorem k_176 : (Cond.soleField "FlatBoxes$Search" "parts") ∈ tables_1 := gT1 (List.mem_of_getElem? (i := 176) rfl)
theorem k_177 : (Cond.lays "FlatBoxes$Search" "FlatBoxes$Search" "leastPrice" "I") ∈ tables_1 := gT1 (List.mem_of_getElem? (i := 177) rfl)
theorem k_178 : (Cond.soleField "FlatBoxes$Search" "leastPrice") ∈ tables_1 := gT1 (List.mem_of_getElem? (i := 178) rfl)
theorem k_179 : (Cond.lays "FlatBoxes$Search" "FlatBoxes$Search" "bestPrice" "I") ∈ tables_1 := gT1 (List.mem_of_getElem? (i := 179) rfl)
theorem k_180 : (Cond.soleField "FlatBoxes$Search" "bestPrice") ∈ tables_1 := gT1 (List.mem_of_getElem? (i := 180) rfl)
theorem k_181 : (Cond.lays "FlatBoxes$Search" "FlatBoxes$Search" "bestBoxes" "I") ∈ tables_1 := gT1 (List.mem_of_getElem? (i := 181) rfl)
theorem k_182 : (Cond.soleField "FlatBoxes$Search" "bestBoxes") ∈ tables_1 := gT1 (List.mem_of_getElem? (i := 182) rfl)
theorem k_183 : (Cond.superclass "FlatBoxes$Search" "java/lang/Object") ∈ tables_1 := gT1 (List.mem_of_getElem? (i := 183) rfl)
theorem k_184 : (Cond.classLink "FlatBoxes" (48 : Nat) "FlatBoxes$Shares") ∈ tables_1 := gT1 (List.mem_of_getElem? (i := 184) rfl)
theorem k_185 : (Cond.instantiable "FlatBoxes$Shares" (5 : Nat)) ∈ tables_1 := gT1 (List.mem_of_getElem? (i := 185) rfl)
theorem k_186 : (Cond.methodLinkNest "FlatBoxes" (50 : Nat) ({ cls := "FlatBoxes$Shares", name := "<init>", desc := "()V" } : MethodName) "FlatBoxes") ∈ tables_1 := gT1 (List.mem_of_getElem? (i := 186) rfl)
theorem k_187 : (Cond.instanceMethod ({ cls := "FlatBoxes$Shares", name := "<init>", desc := "()V" } : MethodName)) ∈ tables_1 := gT1 (List.mem_of_getElem? (i := 187) rfl)
theorem k_188 : (Cond.code ({ cls := "FlatBoxes$Shares", name := "<init>", desc := "()V" } : MethodName) prog_7_method_1_code (1 : Nat) (Option.none : Option ClassFile.FieldType)) ∈ tables_1 := gT1 (List.mem_of_getElem? (i := 188) rfl)
theorem k_189 : (Cond.methodLink "FlatBoxes$Shares" (3 : Nat) ({ cls := "java/lang/Object", name := "<init>", desc := "()V" } : MethodName)) ∈ tables_1 := gT1 (List.mem_of_getElem? (i := 189) rfl)
theorem k_190 : (Cond.classLink "FlatBoxes$Shares" (9 : Nat) "[[I") ∈ tables_1 := gT1 (List.mem_of_getElem? (i := 190) rfl)
theorem k_191 : (Cond.arrayOver (FieldType.array FieldType.int)) ∈ tables_1 := gT1 (List.mem_of_getElem? (i := 191) rfl)
theorem k_192 : (Cond.fieldLink "FlatBoxes$Shares" (11 : Nat) "FlatBoxes$Shares" "ofPart" "[[I") ∈ tables_1 := gT1 (List.mem_of_getElem? (i := 192) rfl)
theorem k_193 : (Cond.fieldLink "FlatBoxes" (147 : Nat) "FlatBoxes$Shares" "ofPart" "[[I") ∈ tables_1 := gT1 (List.mem_of_getElem? (i := 193) rfl)
theorem k_194 : (Cond.fieldLink "FlatBoxes$Shares" (16 : Nat) "FlatBoxes$Shares" "ofBox" "[[I") ∈ tables_1 := gT1 (List.mem_of_getElem? (i := 194) rfl)
theorem k_195 : (Cond.fieldLink "FlatBoxes" (153 : Nat) "FlatBoxes$Shares" "ofBox" "[[I") ∈ tables_1 := gT1 (List.mem_of_getElem? (i := 195) rfl)
theorem k_196 : (Cond.fieldLink "FlatBoxes$Shares" (23 : Nat) "FlatBoxes$Shares" "areSought" "Z") ∈ tables_1 := gT1 (List.mem_of_getElem? (i := 196) rfl)
theorem k_197 : (Cond.fieldLink "FlatBoxes" (127 : Nat) "FlatBoxes$Shares" "areSought" "Z") ∈ tables_1 := gT1 (List.mem_of_getElem? (i := 197) rfl)
theorem k_198 : (Cond.fieldLink "FlatBoxes$Shares" (19 : Nat) "FlatBoxes$Shares" "boxes" "I") ∈ tables_1 := gT1 (List.mem_of_getElem? (i := 198) rfl)
theorem k_199 : (Cond.fieldLink "FlatBoxes" (139 : Nat) "FlatBoxes$Shares" "boxes" "I") ∈ tables_1 := gT1 (List.mem_of_getElem? (i := 199) rfl)
theorem k_200 : (Cond.fieldLink "FlatBoxes$Shares" (32 : Nat) "FlatBoxes$Shares" "cents" "I") ∈ tables_1 := gT1 (List.mem_of_getElem? (i := 200) rfl)
theorem k_201 : (Cond.fieldLink "FlatBoxes" (156 : Nat) "FlatBoxes$Shares" "cents" "I") ∈ tables_1 := gT1 (List.mem_of_getElem? (i := 201) rfl)
theorem k_202 : (Cond.laysFinal "FlatBoxes$Shares" "FlatBoxes$Shares" "ofPart" "[[I") ∈ tables_1 := gT1 (List.mem_of_getElem? (i := 202) rfl)
theorem k_203 : (Cond.soleField "FlatBoxes$Shares" "ofPart") ∈ tables_1 := gT1 (List.mem_of_getElem? (i := 203) rfl)
theorem k_204 : (Cond.laysFinal "FlatBoxes$Shares" "FlatBoxes$Shares" "ofBox" "[[I") ∈ tables_1 := gT1 (List.mem_of_getElem? (i := 204) rfl)
theorem k_205 : (Cond.soleField "FlatBoxes$Shares" "ofBox") ∈ tables_1 := gT1 (List.mem_of_getElem? (i := 205) rfl)
theorem k_206 : (Cond.lays "FlatBoxes$Shares" "FlatBoxes$Shares" "areSought" "Z") ∈ tables_1 := gT1 (List.mem_of_getElem? (i := 206) rfl)
theorem k_207 : (Cond.soleField "FlatBoxes$Shares" "areSought") ∈ tables_1 := gT1 (List.mem_of_getElem? (i := 207) rfl)
theorem k_208 : (Cond.lays "FlatBoxes$Shares" "FlatBoxes$Shares" "boxes" "I") ∈ tables_1 := gT1 (List.mem_of_getElem? (i := 208) rfl)
theorem k_209 : (Cond.soleField "FlatBoxes$Shares" "boxes") ∈ tables_1 := gT1 (List.mem_of_getElem? (i := 209) rfl)
theorem k_210 : (Cond.lays "FlatBoxes$Shares" "FlatBoxes$Shares" "cents" "I") ∈ tables_1 := gT1 (List.mem_of_getElem? (i := 210) rfl)
theorem k_211 : (Cond.soleField "FlatBoxes$Shares" "cents") ∈ tables_1 := gT1 (List.mem_of_getElem? (i := 211) rfl)
theorem k_212 : (Cond.superclass "FlatBoxes$Shares" "java/lang/Object") ∈ tables_1 := gT1 (List.mem_of_getElem? (i := 212) rfl)
theorem k_213 : (Cond.classLink "FlatBoxes" (55 : Nat) "FlatBoxes$Bags") ∈ tables_1 := gT1 (List.mem_of_getElem? (i := 213) rfl)
theorem k_214 : (Cond.instantiable "FlatBoxes$Bags" (7 : Nat)) ∈ tables_1 := gT1 (List.mem_of_getElem? (i := 214) rfl)
theorem k_215 : (Cond.methodLinkNest "FlatBoxes" (57 : Nat) ({ cls := "FlatBoxes$Bags", name := "<init>", desc := "()V" } : MethodName) "FlatBoxes") ∈ tables_1 := gT1 (List.mem_of_getElem? (i := 215) rfl)
theorem k_216 : (Cond.instanceMethod ({ cls := "FlatBoxes$Bags", name := "<init>", desc := "()V" } : MethodName)) ∈ tables_1 := gT1 (List.mem_of_getElem? (i := 216) rfl)
theorem k_217 : (Cond.code ({ cls := "FlatBoxes$Bags", name := "<init>", desc := "()V" } : MethodName) prog_2_method_1_code (1 : Nat) (Option.none : Option ClassFile.FieldType)) ∈ tables_1 := gT1 (List.mem_of_getElem? (i := 217) rfl)
theorem k_218 : (Cond.methodLink "FlatBoxes$Bags" (3 : Nat) ({ cls := "java/lang/Object", name := "<init>", desc := "()V" } : MethodName)) ∈ tables_1 := gT1 (List.mem_of_getElem? (i := 218) rfl)
theorem k_219 : (Cond.classLink "FlatBoxes$Bags" (9 : Nat) "[[I") ∈ tables_1 := gT1 (List.mem_of_getElem? (i := 219) rfl)
theorem k_220 : (Cond.fieldLink "FlatBoxes$Bags" (11 : Nat) "FlatBoxes$Bags" "many" "[[I") ∈ tables_1 := gT1 (List.mem_of_getElem? (i := 220) rfl)
theorem k_221 : (Cond.fieldLink "FlatBoxes$Bags" (16 : Nat) "FlatBoxes$Bags" "each" "[[I") ∈ tables_1 := gT1 (List.mem_of_getElem? (i := 221) rfl)
theorem k_222 : (Cond.fieldLink "FlatBoxes$Bags" (19 : Nat) "FlatBoxes$Bags" "spread" "[[I") ∈ tables_1 := gT1 (List.mem_of_getElem? (i := 222) rfl)
theorem k_223 : (Cond.fieldLink "FlatBoxes$Bags" (22 : Nat) "FlatBoxes$Bags" "sum" "[I") ∈ tables_1 := gT1 (List.mem_of_getElem? (i := 223) rfl)
theorem k_224 : (Cond.fieldLink "FlatBoxes$Bags" (26 : Nat) "FlatBoxes$Bags" "spreads" "[I") ∈ tables_1 := gT1 (List.mem_of_getElem? (i := 224) rfl)
theorem k_225 : (Cond.fieldLink "FlatBoxes$Bags" (29 : Nat) "FlatBoxes$Bags" "kinds" "[I") ∈ tables_1 := gT1 (List.mem_of_getElem? (i := 225) rfl)
theorem k_226 : (Cond.fieldLink "FlatBoxes" (176 : Nat) "FlatBoxes$Bags" "kinds" "[I") ∈ tables_1 := gT1 (List.mem_of_getElem? (i := 226) rfl)
theorem k_227 : (Cond.fieldLink "FlatBoxes$Bags" (32 : Nat) "FlatBoxes$Bags" "count" "I") ∈ tables_1 := gT1 (List.mem_of_getElem? (i := 227) rfl)
theorem k_228 : (Cond.fieldLink "FlatBoxes" (165 : Nat) "FlatBoxes$Bags" "count" "I") ∈ tables_1 := gT1 (List.mem_of_getElem? (i := 228) rfl)
theorem k_229 : (Cond.laysFinal "FlatBoxes$Bags" "FlatBoxes$Bags" "many" "[[I") ∈ tables_1 := gT1 (List.mem_of_getElem? (i := 229) rfl)
theorem k_230 : (Cond.soleField "FlatBoxes$Bags" "many") ∈ tables_1 := gT1 (List.mem_of_getElem? (i := 230) rfl)
theorem k_231 : (Cond.laysFinal "FlatBoxes$Bags" "FlatBoxes$Bags" "each" "[[I") ∈ tables_1 := gT1 (List.mem_of_getElem? (i := 231) rfl)
theorem k_232 : (Cond.soleField "FlatBoxes$Bags" "each") ∈ tables_1 := gT1 (List.mem_of_getElem? (i := 232) rfl)
theorem k_233 : (Cond.laysFinal "FlatBoxes$Bags" "FlatBoxes$Bags" "spread" "[[I") ∈ tables_1 := gT1 (List.mem_of_getElem? (i := 233) rfl)
theorem k_234 : (Cond.soleField "FlatBoxes$Bags" "spread") ∈ tables_1 := gT1 (List.mem_of_getElem? (i := 234) rfl)
theorem k_235 : (Cond.laysFinal "FlatBoxes$Bags" "FlatBoxes$Bags" "sum" "[I") ∈ tables_1 := gT1 (List.mem_of_getElem? (i := 235) rfl)
theorem k_236 : (Cond.soleField "FlatBoxes$Bags" "sum") ∈ tables_1 := gT1 (List.mem_of_getElem? (i := 236) rfl)
theorem k_237 : (Cond.laysFinal "FlatBoxes$Bags" "FlatBoxes$Bags" "spreads" "[I") ∈ tables_1 := gT1 (List.mem_of_getElem? (i := 237) rfl)
theorem k_238 : (Cond.soleField "FlatBoxes$Bags" "spreads") ∈ tables_1 := gT1 (List.mem_of_getElem? (i := 238) rfl)
theorem k_239 : (Cond.laysFinal "FlatBoxes$Bags" "FlatBoxes$Bags" "kinds" "[I") ∈ tables_1 := gT1 (List.mem_of_getElem? (i := 239) rfl)
theorem k_240 : (Cond.soleField "FlatBoxes$Bags" "kinds") ∈ tables_1 := gT2 (List.mem_of_getElem? (i := 0) rfl)
theorem k_241 : (Cond.lays "FlatBoxes$Bags" "FlatBoxes$Bags" "count" "I") ∈ tables_1 := gT2 (List.mem_of_getElem? (i := 1) rfl)
theorem k_242 : (Cond.soleField "FlatBoxes$Bags" "count") ∈ tables_1 := gT2 (List.mem_of_getElem? (i := 2) rfl)
theorem k_243 : (Cond.superclass "FlatBoxes$Bags" "java/lang/Object") ∈ tables_1 := gT2 (List.mem_of_getElem? (i := 3) rfl)
theorem k_244 : (Cond.fieldLink "FlatBoxes" (12 : Nat) "FlatBoxes" "cartonRows" "LFlatBoxes$Cartons;") ∈ tables_1 := gT2 (List.mem_of_getElem? (i := 4) rfl)
theorem k_245 : (Cond.fieldLink "FlatBoxes" (19 : Nat) "FlatBoxes" "partRows" "LFlatBoxes$Parts;") ∈ tables_1 := gT2 (List.mem_of_getElem? (i := 5) rfl)
theorem k_246 : (Cond.fieldLink "FlatBoxes" (37 : Nat) "FlatBoxes" "packing" "LFlatBoxes$Packing;") ∈ tables_1 := gT2 (List.mem_of_getElem? (i := 6) rfl)
theorem k_247 : (Cond.fieldLink "FlatBoxes" (44 : Nat) "FlatBoxes" "search" "LFlatBoxes$Search;") ∈ tables_1 := gT2 (List.mem_of_getElem? (i := 7) rfl)
theorem k_248 : (Cond.fieldLink "FlatBoxes" (51 : Nat) "FlatBoxes" "shares" "LFlatBoxes$Shares;") ∈ tables_1 := gT2 (List.mem_of_getElem? (i := 8) rfl)
theorem k_249 : (Cond.fieldLink "FlatBoxes" (58 : Nat) "FlatBoxes" "bagRows" "LFlatBoxes$Bags;") ∈ tables_1 := gT2 (List.mem_of_getElem? (i := 9) rfl)
theorem k_250 : (Cond.laysFinal "FlatBoxes" "FlatBoxes" "cartonRows" "LFlatBoxes$Cartons;") ∈ tables_1 := gT2 (List.mem_of_getElem? (i := 10) rfl)
theorem k_251 : (Cond.soleField "FlatBoxes" "cartonRows") ∈ tables_1 := gT2 (List.mem_of_getElem? (i := 11) rfl)
theorem k_252 : (Cond.laysFinal "FlatBoxes" "FlatBoxes" "partRows" "LFlatBoxes$Parts;") ∈ tables_1 := gT2 (List.mem_of_getElem? (i := 12) rfl)
theorem k_253 : (Cond.soleField "FlatBoxes" "partRows") ∈ tables_1 := gT2 (List.mem_of_getElem? (i := 13) rfl)
theorem k_254 : (Cond.laysFinal "FlatBoxes" "FlatBoxes" "packing" "LFlatBoxes$Packing;") ∈ tables_1 := gT2 (List.mem_of_getElem? (i := 14) rfl)
theorem k_255 : (Cond.soleField "FlatBoxes" "packing") ∈ tables_1 := gT2 (List.mem_of_getElem? (i := 15) rfl)
theorem k_256 : (Cond.laysFinal "FlatBoxes" "FlatBoxes" "search" "LFlatBoxes$Search;") ∈ tables_1 := gT2 (List.mem_of_getElem? (i := 16) rfl)
theorem k_257 : (Cond.soleField "FlatBoxes" "search") ∈ tables_1 := gT2 (List.mem_of_getElem? (i := 17) rfl)
theorem k_258 : (Cond.laysFinal "FlatBoxes" "FlatBoxes" "shares" "LFlatBoxes$Shares;") ∈ tables_1 := gT2 (List.mem_of_getElem? (i := 18) rfl)
theorem k_259 : (Cond.soleField "FlatBoxes" "shares") ∈ tables_1 := gT2 (List.mem_of_getElem? (i := 19) rfl)
theorem k_260 : (Cond.laysFinal "FlatBoxes" "FlatBoxes" "bagRows" "LFlatBoxes$Bags;") ∈ tables_1 := gT2 (List.mem_of_getElem? (i := 20) rfl)
theorem k_261 : (Cond.soleField "FlatBoxes" "bagRows") ∈ tables_1 := gT2 (List.mem_of_getElem? (i := 21) rfl)
theorem k_262 : (Cond.superclass "FlatBoxes" "java/lang/Object") ∈ tables_1 := gT2 (List.mem_of_getElem? (i := 22) rfl)
theorem k_263 : (Cond.methodLink "FlatBoxesLaw" (91 : Nat) ({ cls := "FlatBoxes", name := "run", desc := "()I" } : MethodName)) ∈ tables_1 := gT2 (List.mem_of_getElem? (i := 23) rfl)
theorem k_264 : (Cond.instanceMethod ({ cls := "FlatBoxes", name := "run", desc := "()I" } : MethodName)) ∈ tables_1 := gT2 (List.mem_of_getElem? (i := 24) rfl)
theorem k_265 : (Cond.selects "FlatBoxes" ({ cls := "FlatBoxes", name := "run", desc := "()I" } : MethodName) ({ cls := "FlatBoxes", name := "run", desc := "()I" } : MethodName)) ∈ tables_1 := gT2 (List.mem_of_getElem? (i := 25) rfl)
theorem k_266 : (Cond.code ({ cls := "FlatBoxes", name := "run", desc := "()I" } : MethodName) prog_1_method_6_code (1 : Nat) (Option.some FieldType.int)) ∈ tables_1 := gT2 (List.mem_of_getElem? (i := 26) rfl)
theorem k_267 : (Cond.methodLink "FlatBoxes" (131 : Nat) ({ cls := "FlatBoxes$Search", name := "find", desc := "(LFlatBoxes$Cartons;LFlatBoxes$Parts;LFlatBoxes$Packing;)V" } : MethodName)) ∈ tables_1 := gT2 (List.mem_of_getElem? (i := 27) rfl)
theorem k_268 : (Cond.instanceMethod ({ cls := "FlatBoxes$Search", name := "find", desc := "(LFlatBoxes$Cartons;LFlatBoxes$Parts;LFlatBoxes$Packing;)V" } : MethodName)) ∈ tables_1 := gT2 (List.mem_of_getElem? (i := 28) rfl)
theorem k_269 : (Cond.selects "FlatBoxes$Search" ({ cls := "FlatBoxes$Search", name := "find", desc := "(LFlatBoxes$Cartons;LFlatBoxes$Parts;LFlatBoxes$Packing;)V" } : MethodName) ({ cls := "FlatBoxes$Search", name := "find", desc := "(LFlatBoxes$Cartons;LFlatBoxes$Parts;LFlatBoxes$Packing;)V" } : MethodName)) ∈ tables_1 := gT2 (List.mem_of_getElem? (i := 29) rfl)
theorem k_270 : (Cond.code ({ cls := "FlatBoxes$Search", name := "find", desc := "(LFlatBoxes$Cartons;LFlatBoxes$Parts;LFlatBoxes$Packing;)V" } : MethodName) prog_6_method_2_code (5 : Nat) (Option.none : Option ClassFile.FieldType)) ∈ tables_1 := gT2 (List.mem_of_getElem? (i := 30) rfl)
theorem k_271 : (Cond.constant "FlatBoxes$Search" (33 : Nat) (7200009 : Int32)) ∈ tables_1 := gT2 (List.mem_of_getElem? (i := 31) rfl)
theorem k_272 : (Cond.methodLink "FlatBoxes$Search" (37 : Nat) ({ cls := "FlatBoxes$Parts", name := "everyPart", desc := "()I" } : MethodName)) ∈ tables_1 := gT2 (List.mem_of_getElem? (i := 32) rfl)
theorem k_273 : (Cond.instanceMethod ({ cls := "FlatBoxes$Parts", name := "everyPart", desc := "()I" } : MethodName)) ∈ tables_1 := gT2 (List.mem_of_getElem? (i := 33) rfl)
theorem k_274 : (Cond.selects "FlatBoxes$Parts" ({ cls := "FlatBoxes$Parts", name := "everyPart", desc := "()I" } : MethodName) ({ cls := "FlatBoxes$Parts", name := "everyPart", desc := "()I" } : MethodName)) ∈ tables_1 := gT2 (List.mem_of_getElem? (i := 34) rfl)
theorem k_275 : (Cond.code ({ cls := "FlatBoxes$Parts", name := "everyPart", desc := "()I" } : MethodName) prog_5_method_5_code (1 : Nat) (Option.some FieldType.int)) ∈ tables_1 := gT2 (List.mem_of_getElem? (i := 35) rfl)
theorem k_276 : (Cond.methodLink "FlatBoxes$Search" (41 : Nat) ({ cls := "FlatBoxes$Search", name := "chooseCarton", desc := "(LFlatBoxes$Cartons;LFlatBoxes$Parts;LFlatBoxes$Packing;I)V" } : MethodName)) ∈ tables_1 := gT2 (List.mem_of_getElem? (i := 36) rfl)
theorem k_277 : (Cond.privateMethod ({ cls := "FlatBoxes$Search", name := "chooseCarton", desc := "(LFlatBoxes$Cartons;LFlatBoxes$Parts;LFlatBoxes$Packing;I)V" } : MethodName)) ∈ tables_1 := gT2 (List.mem_of_getElem? (i := 37) rfl)
theorem k_278 : (Cond.instanceMethod ({ cls := "FlatBoxes$Search", name := "chooseCarton", desc := "(LFlatBoxes$Cartons;LFlatBoxes$Parts;LFlatBoxes$Packing;I)V" } : MethodName)) ∈ tables_1 := gT2 (List.mem_of_getElem? (i := 38) rfl)
theorem k_279 : (Cond.code ({ cls := "FlatBoxes$Search", name := "chooseCarton", desc := "(LFlatBoxes$Cartons;LFlatBoxes$Parts;LFlatBoxes$Packing;I)V" } : MethodName) prog_6_method_3_code (7 : Nat) (Option.none : Option ClassFile.FieldType)) ∈ tables_1 := gT2 (List.mem_of_getElem? (i := 39) rfl)
theorem k_280 : (Cond.methodLink "FlatBoxes$Search" (67 : Nat) ({ cls := "FlatBoxes$Packing", name := "isHeldBy", desc := "(LFlatBoxes$Cartons;ILFlatBoxes$Parts;I)Z" } : MethodName)) ∈ tables_1 := gT2 (List.mem_of_getElem? (i := 40) rfl)
theorem k_281 : (Cond.instanceMethod ({ cls := "FlatBoxes$Packing", name := "isHeldBy", desc := "(LFlatBoxes$Cartons;ILFlatBoxes$Parts;I)Z" } : MethodName)) ∈ tables_1 := gT2 (List.mem_of_getElem? (i := 41) rfl)
theorem k_282 : (Cond.selects "FlatBoxes$Packing" ({ cls := "FlatBoxes$Packing", name := "isHeldBy", desc := "(LFlatBoxes$Cartons;ILFlatBoxes$Parts;I)Z" } : MethodName) ({ cls := "FlatBoxes$Packing", name := "isHeldBy", desc := "(LFlatBoxes$Cartons;ILFlatBoxes$Parts;I)Z" } : MethodName)) ∈ tables_1 := gT2 (List.mem_of_getElem? (i := 42) rfl)
theorem k_283 : (Cond.code ({ cls := "FlatBoxes$Packing", name := "isHeldBy", desc := "(LFlatBoxes$Cartons;ILFlatBoxes$Parts;I)Z" } : MethodName) prog_4_method_2_code (5 : Nat) (Option.some FieldType.boolean)) ∈ tables_1 := gT2 (List.mem_of_getElem? (i := 43) rfl)
theorem k_284 : (Cond.methodLink "FlatBoxes$Packing" (38 : Nat) ({ cls := "FlatBoxes$Parts", name := "gramsOf", desc := "(I)I" } : MethodName)) ∈ tables_1 := gT2 (List.mem_of_getElem? (i := 44) rfl)
theorem k_285 : (Cond.instanceMethod ({ cls := "FlatBoxes$Parts", name := "gramsOf", desc := "(I)I" } : MethodName)) ∈ tables_1 := gT2 (List.mem_of_getElem? (i := 45) rfl)
theorem k_286 : (Cond.selects "FlatBoxes$Parts" ({ cls := "FlatBoxes$Parts", name := "gramsOf", desc := "(I)I" } : MethodName) ({ cls := "FlatBoxes$Parts", name := "gramsOf", desc := "(I)I" } : MethodName)) ∈ tables_1 := gT2 (List.mem_of_getElem? (i := 46) rfl)
theorem k_287 : (Cond.code ({ cls := "FlatBoxes$Parts", name := "gramsOf", desc := "(I)I" } : MethodName) prog_5_method_6_code (4 : Nat) (Option.some FieldType.int)) ∈ tables_1 := gT2 (List.mem_of_getElem? (i := 47) rfl)
theorem k_288 : (Cond.methodLinkNest "FlatBoxes$Parts" (48 : Nat) ({ cls := "FlatBoxes", name := "isIn", desc := "(II)Z" } : MethodName) "FlatBoxes") ∈ tables_1 := gT2 (List.mem_of_getElem? (i := 48) rfl)
theorem k_289 : (Cond.static ({ cls := "FlatBoxes", name := "isIn", desc := "(II)Z" } : MethodName)) ∈ tables_1 := gT2 (List.mem_of_getElem? (i := 49) rfl)
theorem k_290 : (Cond.code ({ cls := "FlatBoxes", name := "isIn", desc := "(II)Z" } : MethodName) prog_1_method_20_code (2 : Nat) (Option.some FieldType.boolean)) ∈ tables_1 := gT2 (List.mem_of_getElem? (i := 50) rfl)
theorem k_291 : (Cond.methodLink "FlatBoxes$Packing" (53 : Nat) ({ cls := "FlatBoxes$Parts", name := "areWithin", desc := "(III)Z" } : MethodName)) ∈ tables_1 := gT2 (List.mem_of_getElem? (i := 51) rfl)
theorem k_292 : (Cond.instanceMethod ({ cls := "FlatBoxes$Parts", name := "areWithin", desc := "(III)Z" } : MethodName)) ∈ tables_1 := gT2 (List.mem_of_getElem? (i := 52) rfl)
theorem k_293 : (Cond.selects "FlatBoxes$Parts" ({ cls := "FlatBoxes$Parts", name := "areWithin", desc := "(III)Z" } : MethodName) ({ cls := "FlatBoxes$Parts", name := "areWithin", desc := "(III)Z" } : MethodName)) ∈ tables_1 := gT2 (List.mem_of_getElem? (i := 53) rfl)
theorem k_294 : (Cond.code ({ cls := "FlatBoxes$Parts", name := "areWithin", desc := "(III)Z" } : MethodName) prog_5_method_7_code (5 : Nat) (Option.some FieldType.boolean)) ∈ tables_1 := gT2 (List.mem_of_getElem? (i := 54) rfl)
theorem k_295 : (Cond.methodLink "FlatBoxes$Packing" (57 : Nat) ({ cls := "FlatBoxes$Packing", name := "pack", desc := "(LFlatBoxes$Parts;II)V" } : MethodName)) ∈ tables_1 := gT2 (List.mem_of_getElem? (i := 55) rfl)
theorem k_296 : (Cond.instanceMethod ({ cls := "FlatBoxes$Packing", name := "pack", desc := "(LFlatBoxes$Parts;II)V" } : MethodName)) ∈ tables_1 := gT2 (List.mem_of_getElem? (i := 56) rfl)
theorem k_297 : (Cond.selects "FlatBoxes$Packing" ({ cls := "FlatBoxes$Packing", name := "pack", desc := "(LFlatBoxes$Parts;II)V" } : MethodName) ({ cls := "FlatBoxes$Packing", name := "pack", desc := "(LFlatBoxes$Parts;II)V" } : MethodName)) ∈ tables_1 := gT2 (List.mem_of_getElem? (i := 57) rfl)
theorem k_298 : (Cond.code ({ cls := "FlatBoxes$Packing", name := "pack", desc := "(LFlatBoxes$Parts;II)V" } : MethodName) prog_4_method_3_code (6 : Nat) (Option.none : Option ClassFile.FieldType)) ∈ tables_1 := gT2 (List.mem_of_getElem? (i := 58) rfl)
theorem k_299 : (Cond.methodLinkNest "FlatBoxes$Packing" (79 : Nat) ({ cls := "FlatBoxes", name := "isIn", desc := "(II)Z" } : MethodName) "FlatBoxes") ∈ tables_1 := gT2 (List.mem_of_getElem? (i := 59) rfl)
theorem k_300 : (Cond.methodLink "FlatBoxes$Packing" (84 : Nat) ({ cls := "FlatBoxes$Packing", name := "firstWithRoom", desc := "(II)I" } : MethodName)) ∈ tables_1 := gT2 (List.mem_of_getElem? (i := 60) rfl)
theorem k_301 : (Cond.privateMethod ({ cls := "FlatBoxes$Packing", name := "firstWithRoom", desc := "(II)I" } : MethodName)) ∈ tables_1 := gT2 (List.mem_of_getElem? (i := 61) rfl)
theorem k_302 : (Cond.instanceMethod ({ cls := "FlatBoxes$Packing", name := "firstWithRoom", desc := "(II)I" } : MethodName)) ∈ tables_1 := gT2 (List.mem_of_getElem? (i := 62) rfl)
theorem k_303 : (Cond.code ({ cls := "FlatBoxes$Packing", name := "firstWithRoom", desc := "(II)I" } : MethodName) prog_4_method_4_code (4 : Nat) (Option.some FieldType.int)) ∈ tables_1 := gT2 (List.mem_of_getElem? (i := 63) rfl)
theorem k_304 : (Cond.methodLink "FlatBoxes$Packing" (88 : Nat) ({ cls := "FlatBoxes$Packing", name := "lay", desc := "(LFlatBoxes$Parts;II)V" } : MethodName)) ∈ tables_1 := gT2 (List.mem_of_getElem? (i := 64) rfl)
theorem k_305 : (Cond.privateMethod ({ cls := "FlatBoxes$Packing", name := "lay", desc := "(LFlatBoxes$Parts;II)V" } : MethodName)) ∈ tables_1 := gT2 (List.mem_of_getElem? (i := 65) rfl)
theorem k_306 : (Cond.instanceMethod ({ cls := "FlatBoxes$Packing", name := "lay", desc := "(LFlatBoxes$Parts;II)V" } : MethodName)) ∈ tables_1 := gT2 (List.mem_of_getElem? (i := 66) rfl)
theorem k_307 : (Cond.code ({ cls := "FlatBoxes$Packing", name := "lay", desc := "(LFlatBoxes$Parts;II)V" } : MethodName) prog_4_method_5_code (5 : Nat) (Option.none : Option ClassFile.FieldType)) ∈ tables_1 := gT2 (List.mem_of_getElem? (i := 67) rfl)
theorem k_308 : (Cond.methodLink "FlatBoxes$Packing" (92 : Nat) ({ cls := "FlatBoxes$Packing", name := "open", desc := "(II)V" } : MethodName)) ∈ tables_1 := gT2 (List.mem_of_getElem? (i := 68) rfl)
theorem k_309 : (Cond.privateMethod ({ cls := "FlatBoxes$Packing", name := "open", desc := "(II)V" } : MethodName)) ∈ tables_1 := gT2 (List.mem_of_getElem? (i := 69) rfl)
theorem k_310 : (Cond.instanceMethod ({ cls := "FlatBoxes$Packing", name := "open", desc := "(II)V" } : MethodName)) ∈ tables_1 := gT2 (List.mem_of_getElem? (i := 70) rfl)
theorem k_311 : (Cond.code ({ cls := "FlatBoxes$Packing", name := "open", desc := "(II)V" } : MethodName) prog_4_method_6_code (3 : Nat) (Option.none : Option ClassFile.FieldType)) ∈ tables_1 := gT2 (List.mem_of_getElem? (i := 71) rfl)
theorem k_312 : (Cond.methodLink "FlatBoxes$Packing" (100 : Nat) ({ cls := "java/lang/Math", name := "min", desc := "(II)I" } : MethodName)) ∈ tables_1 := gT2 (List.mem_of_getElem? (i := 72) rfl)
theorem k_313 : (Cond.methodLink "FlatBoxes$Packing" (61 : Nat) ({ cls := "FlatBoxes$Packing", name := "height", desc := "()I" } : MethodName)) ∈ tables_1 := gT2 (List.mem_of_getElem? (i := 73) rfl)
theorem k_314 : (Cond.instanceMethod ({ cls := "FlatBoxes$Packing", name := "height", desc := "()I" } : MethodName)) ∈ tables_1 := gT2 (List.mem_of_getElem? (i := 74) rfl)
theorem k_315 : (Cond.selects "FlatBoxes$Packing" ({ cls := "FlatBoxes$Packing", name := "height", desc := "()I" } : MethodName) ({ cls := "FlatBoxes$Packing", name := "height", desc := "()I" } : MethodName)) ∈ tables_1 := gT2 (List.mem_of_getElem? (i := 75) rfl)
theorem k_316 : (Cond.code ({ cls := "FlatBoxes$Packing", name := "height", desc := "()I" } : MethodName) prog_4_method_7_code (3 : Nat) (Option.some FieldType.int)) ∈ tables_1 := gT2 (List.mem_of_getElem? (i := 76) rfl)
theorem k_317 : (Cond.methodLink "FlatBoxes$Packing" (67 : Nat) ({ cls := "FlatBoxes$Packing", name := "fragileLayers", desc := "()I" } : MethodName)) ∈ tables_1 := gT2 (List.mem_of_getElem? (i := 77) rfl)
theorem k_318 : (Cond.privateMethod ({ cls := "FlatBoxes$Packing", name := "fragileLayers", desc := "()I" } : MethodName)) ∈ tables_1 := gT2 (List.mem_of_getElem? (i := 78) rfl)
theorem k_319 : (Cond.instanceMethod ({ cls := "FlatBoxes$Packing", name := "fragileLayers", desc := "()I" } : MethodName)) ∈ tables_1 := gT2 (List.mem_of_getElem? (i := 79) rfl)
theorem k_320 : (Cond.code ({ cls := "FlatBoxes$Packing", name := "fragileLayers", desc := "()I" } : MethodName) prog_4_method_8_code (3 : Nat) (Option.some FieldType.int)) ∈ tables_1 := gT2 (List.mem_of_getElem? (i := 80) rfl)
theorem k_321 : (Cond.methodLink "FlatBoxes$Search" (45 : Nat) ({ cls := "java/lang/Math", name := "min", desc := "(II)I" } : MethodName)) ∈ tables_1 := gT2 (List.mem_of_getElem? (i := 81) rfl)
theorem k_322 : (Cond.methodLink "FlatBoxes$Search" (57 : Nat) ({ cls := "FlatBoxes$Search", name := "share", desc := "(II)V" } : MethodName)) ∈ tables_1 := gT2 (List.mem_of_getElem? (i := 82) rfl)
theorem k_323 : (Cond.privateMethod ({ cls := "FlatBoxes$Search", name := "share", desc := "(II)V" } : MethodName)) ∈ tables_1 := gT2 (List.mem_of_getElem? (i := 83) rfl)
theorem k_324 : (Cond.instanceMethod ({ cls := "FlatBoxes$Search", name := "share", desc := "(II)V" } : MethodName)) ∈ tables_1 := gT2 (List.mem_of_getElem? (i := 84) rfl)
theorem k_325 : (Cond.code ({ cls := "FlatBoxes$Search", name := "share", desc := "(II)V" } : MethodName) prog_6_method_4_code (4 : Nat) (Option.none : Option ClassFile.FieldType)) ∈ tables_1 := gT2 (List.mem_of_getElem? (i := 85) rfl)
theorem k_326 : (Cond.methodLink "FlatBoxes$Search" (73 : Nat) ({ cls := "FlatBoxes$Search", name := "compareWithBest", desc := "(I)V" } : MethodName)) ∈ tables_1 := gT2 (List.mem_of_getElem? (i := 86) rfl)
theorem k_327 : (Cond.privateMethod ({ cls := "FlatBoxes$Search", name := "compareWithBest", desc := "(I)V" } : MethodName)) ∈ tables_1 := gT2 (List.mem_of_getElem? (i := 87) rfl)
theorem k_328 : (Cond.instanceMethod ({ cls := "FlatBoxes$Search", name := "compareWithBest", desc := "(I)V" } : MethodName)) ∈ tables_1 := gT2 (List.mem_of_getElem? (i := 88) rfl)
theorem k_329 : (Cond.code ({ cls := "FlatBoxes$Search", name := "compareWithBest", desc := "(I)V" } : MethodName) prog_6_method_5_code (4 : Nat) (Option.none : Option ClassFile.FieldType)) ∈ tables_1 := gT2 (List.mem_of_getElem? (i := 89) rfl)
theorem k_330 : (Cond.methodLink "FlatBoxes$Search" (80 : Nat) ({ cls := "java/lang/System", name := "arraycopy", desc := "(Ljava/lang/Object;ILjava/lang/Object;II)V" } : MethodName)) ∈ tables_1 := gT2 (List.mem_of_getElem? (i := 90) rfl)
theorem k_331 : (Cond.static ({ cls := "java/lang/System", name := "arraycopy", desc := "(Ljava/lang/Object;ILjava/lang/Object;II)V" } : MethodName)) ∈ tables_1 := gT2 (List.mem_of_getElem? (i := 91) rfl)
theorem k_332 : (Cond.native ({ cls := "java/lang/System", name := "arraycopy", desc := "(Ljava/lang/Object;ILjava/lang/Object;II)V" } : MethodName)) ∈ tables_1 := gT2 (List.mem_of_getElem? (i := 92) rfl)
theorem k_333 : (Cond.methodLink "FlatBoxes$Search" (77 : Nat) ({ cls := "java/lang/Math", name := "max", desc := "(II)I" } : MethodName)) ∈ tables_1 := gT2 (List.mem_of_getElem? (i := 93) rfl)
theorem k_334 : (Cond.methodLink "FlatBoxes" (135 : Nat) ({ cls := "FlatBoxes$Shares", name := "take", desc := "(LFlatBoxes$Search;LFlatBoxes$Cartons;LFlatBoxes$Parts;LFlatBoxes$Packing;)V" } : MethodName)) ∈ tables_1 := gT2 (List.mem_of_getElem? (i := 94) rfl)
theorem k_335 : (Cond.instanceMethod ({ cls := "FlatBoxes$Shares", name := "take", desc := "(LFlatBoxes$Search;LFlatBoxes$Cartons;LFlatBoxes$Parts;LFlatBoxes$Packing;)V" } : MethodName)) ∈ tables_1 := gT2 (List.mem_of_getElem? (i := 95) rfl)
theorem k_336 : (Cond.selects "FlatBoxes$Shares" ({ cls := "FlatBoxes$Shares", name := "take", desc := "(LFlatBoxes$Search;LFlatBoxes$Cartons;LFlatBoxes$Parts;LFlatBoxes$Packing;)V" } : MethodName) ({ cls := "FlatBoxes$Shares", name := "take", desc := "(LFlatBoxes$Search;LFlatBoxes$Cartons;LFlatBoxes$Parts;LFlatBoxes$Packing;)V" } : MethodName)) ∈ tables_1 := gT2 (List.mem_of_getElem? (i := 96) rfl)
theorem k_337 : (Cond.code ({ cls := "FlatBoxes$Shares", name := "take", desc := "(LFlatBoxes$Search;LFlatBoxes$Cartons;LFlatBoxes$Parts;LFlatBoxes$Packing;)V" } : MethodName) prog_7_method_3_code (8 : Nat) (Option.none : Option ClassFile.FieldType)) ∈ tables_1 := gT2 (List.mem_of_getElem? (i := 97) rfl)
theorem k_338 : (Cond.methodLink "FlatBoxes$Shares" (27 : Nat) ({ cls := "FlatBoxes$Search", name := "boxes", desc := "()I" } : MethodName)) ∈ tables_1 := gT2 (List.mem_of_getElem? (i := 98) rfl)
theorem k_339 : (Cond.instanceMethod ({ cls := "FlatBoxes$Search", name := "boxes", desc := "()I" } : MethodName)) ∈ tables_1 := gT2 (List.mem_of_getElem? (i := 99) rfl)
theorem k_340 : (Cond.selects "FlatBoxes$Search" ({ cls := "FlatBoxes$Search", name := "boxes", desc := "()I" } : MethodName) ({ cls := "FlatBoxes$Search", name := "boxes", desc := "()I" } : MethodName)) ∈ tables_1 := gT2 (List.mem_of_getElem? (i := 100) rfl)
theorem k_341 : (Cond.code ({ cls := "FlatBoxes$Search", name := "boxes", desc := "()I" } : MethodName) prog_6_method_6_code (1 : Nat) (Option.some FieldType.int)) ∈ tables_1 := gT2 (List.mem_of_getElem? (i := 101) rfl)
theorem k_342 : (Cond.methodLink "FlatBoxes$Shares" (35 : Nat) ({ cls := "FlatBoxes$Search", name := "setOf", desc := "(I)I" } : MethodName)) ∈ tables_1 := gT2 (List.mem_of_getElem? (i := 102) rfl)
theorem k_343 : (Cond.instanceMethod ({ cls := "FlatBoxes$Search", name := "setOf", desc := "(I)I" } : MethodName)) ∈ tables_1 := gT2 (List.mem_of_getElem? (i := 103) rfl)
theorem k_344 : (Cond.selects "FlatBoxes$Search" ({ cls := "FlatBoxes$Search", name := "setOf", desc := "(I)I" } : MethodName) ({ cls := "FlatBoxes$Search", name := "setOf", desc := "(I)I" } : MethodName)) ∈ tables_1 := gT2 (List.mem_of_getElem? (i := 104) rfl)
theorem k_345 : (Cond.code ({ cls := "FlatBoxes$Search", name := "setOf", desc := "(I)I" } : MethodName) prog_6_method_7_code (2 : Nat) (Option.some FieldType.int)) ∈ tables_1 := gT2 (List.mem_of_getElem? (i := 105) rfl)
theorem k_346 : (Cond.methodLink "FlatBoxes$Shares" (39 : Nat) ({ cls := "FlatBoxes$Search", name := "cartonFor", desc := "(I)I" } : MethodName)) ∈ tables_1 := gT2 (List.mem_of_getElem? (i := 106) rfl)
theorem k_347 : (Cond.instanceMethod ({ cls := "FlatBoxes$Search", name := "cartonFor", desc := "(I)I" } : MethodName)) ∈ tables_1 := gT2 (List.mem_of_getElem? (i := 107) rfl)
theorem k_348 : (Cond.selects "FlatBoxes$Search" ({ cls := "FlatBoxes$Search", name := "cartonFor", desc := "(I)I" } : MethodName) ({ cls := "FlatBoxes$Search", name := "cartonFor", desc := "(I)I" } : MethodName)) ∈ tables_1 := gT2 (List.mem_of_getElem? (i := 108) rfl)
theorem k_349 : (Cond.code ({ cls := "FlatBoxes$Search", name := "cartonFor", desc := "(I)I" } : MethodName) prog_6_method_8_code (2 : Nat) (Option.some FieldType.int)) ∈ tables_1 := gT2 (List.mem_of_getElem? (i := 109) rfl)
theorem k_350 : (Cond.methodLink "FlatBoxes$Shares" (48 : Nat) ({ cls := "FlatBoxes$Packing", name := "pack", desc := "(LFlatBoxes$Parts;II)V" } : MethodName)) ∈ tables_1 := gT2 (List.mem_of_getElem? (i := 110) rfl)
theorem k_351 : (Cond.methodLink "FlatBoxes$Shares" (56 : Nat) ({ cls := "FlatBoxes$Shares", name := "tellBox", desc := "(IILFlatBoxes$Parts;LFlatBoxes$Packing;)V" } : MethodName)) ∈ tables_1 := gT2 (List.mem_of_getElem? (i := 111) rfl)
theorem k_352 : (Cond.privateMethod ({ cls := "FlatBoxes$Shares", name := "tellBox", desc := "(IILFlatBoxes$Parts;LFlatBoxes$Packing;)V" } : MethodName)) ∈ tables_1 := gT2 (List.mem_of_getElem? (i := 112) rfl)
theorem k_353 : (Cond.instanceMethod ({ cls := "FlatBoxes$Shares", name := "tellBox", desc := "(IILFlatBoxes$Parts;LFlatBoxes$Packing;)V" } : MethodName)) ∈ tables_1 := gT2 (List.mem_of_getElem? (i := 113) rfl)
theorem k_354 : (Cond.code ({ cls := "FlatBoxes$Shares", name := "tellBox", desc := "(IILFlatBoxes$Parts;LFlatBoxes$Packing;)V" } : MethodName) prog_7_method_4_code (5 : Nat) (Option.none : Option ClassFile.FieldType)) ∈ tables_1 := gT2 (List.mem_of_getElem? (i := 114) rfl)
theorem k_355 : (Cond.methodLink "FlatBoxes$Shares" (63 : Nat) ({ cls := "java/lang/Integer", name := "bitCount", desc := "(I)I" } : MethodName)) ∈ tables_1 := gT2 (List.mem_of_getElem? (i := 115) rfl)
theorem k_356 : (Cond.static ({ cls := "java/lang/Integer", name := "bitCount", desc := "(I)I" } : MethodName)) ∈ tables_1 := gT2 (List.mem_of_getElem? (i := 116) rfl)
theorem k_357 : (Cond.code ({ cls := "java/lang/Integer", name := "bitCount", desc := "(I)I" } : MethodName) prog_14_method_49_code (1 : Nat) (Option.some FieldType.int)) ∈ tables_1 := gT2 (List.mem_of_getElem? (i := 117) rfl)
theorem k_358 : (Cond.constant "java/lang/Integer" (265 : Nat) (1431655765 : Int32)) ∈ tables_1 := gT2 (List.mem_of_getElem? (i := 118) rfl)
theorem k_359 : (Cond.constant "java/lang/Integer" (266 : Nat) (858993459 : Int32)) ∈ tables_1 := gT2 (List.mem_of_getElem? (i := 119) rfl)
theorem k_360 : (Cond.constant "java/lang/Integer" (267 : Nat) (252645135 : Int32)) ∈ tables_1 := gT2 (List.mem_of_getElem? (i := 120) rfl)
theorem k_361 : (Cond.methodLink "FlatBoxes$Shares" (68 : Nat) ({ cls := "FlatBoxes$Parts", name := "gramsOf", desc := "(I)I" } : MethodName)) ∈ tables_1 := gT2 (List.mem_of_getElem? (i := 121) rfl)
theorem k_362 : (Cond.methodLink "FlatBoxes$Shares" (76 : Nat) ({ cls := "FlatBoxes$Packing", name := "height", desc := "()I" } : MethodName)) ∈ tables_1 := gT2 (List.mem_of_getElem? (i := 122) rfl)
theorem k_363 : (Cond.methodLink "FlatBoxes$Shares" (60 : Nat) ({ cls := "FlatBoxes$Shares", name := "tellParts", desc := "(IILFlatBoxes$Parts;LFlatBoxes$Packing;)V" } : MethodName)) ∈ tables_1 := gT2 (List.mem_of_getElem? (i := 123) rfl)
theorem k_364 : (Cond.privateMethod ({ cls := "FlatBoxes$Shares", name := "tellParts", desc := "(IILFlatBoxes$Parts;LFlatBoxes$Packing;)V" } : MethodName)) ∈ tables_1 := gT2 (List.mem_of_getElem? (i := 124) rfl)
theorem k_365 : (Cond.instanceMethod ({ cls := "FlatBoxes$Shares", name := "tellParts", desc := "(IILFlatBoxes$Parts;LFlatBoxes$Packing;)V" } : MethodName)) ∈ tables_1 := gT2 (List.mem_of_getElem? (i := 125) rfl)
theorem k_366 : (Cond.code ({ cls := "FlatBoxes$Shares", name := "tellParts", desc := "(IILFlatBoxes$Parts;LFlatBoxes$Packing;)V" } : MethodName) prog_7_method_5_code (7 : Nat) (Option.none : Option ClassFile.FieldType)) ∈ tables_1 := gT2 (List.mem_of_getElem? (i := 126) rfl)
theorem k_367 : (Cond.methodLinkNest "FlatBoxes$Shares" (82 : Nat) ({ cls := "FlatBoxes", name := "isIn", desc := "(II)Z" } : MethodName) "FlatBoxes") ∈ tables_1 := gT2 (List.mem_of_getElem? (i := 127) rfl)
theorem k_368 : (Cond.methodLink "FlatBoxes$Shares" (89 : Nat) ({ cls := "FlatBoxes$Packing", name := "layersBelow", desc := "(I)I" } : MethodName)) ∈ tables_1 := gT2 (List.mem_of_getElem? (i := 128) rfl)
theorem k_369 : (Cond.instanceMethod ({ cls := "FlatBoxes$Packing", name := "layersBelow", desc := "(I)I" } : MethodName)) ∈ tables_1 := gT2 (List.mem_of_getElem? (i := 129) rfl)
theorem k_370 : (Cond.selects "FlatBoxes$Packing" ({ cls := "FlatBoxes$Packing", name := "layersBelow", desc := "(I)I" } : MethodName) ({ cls := "FlatBoxes$Packing", name := "layersBelow", desc := "(I)I" } : MethodName)) ∈ tables_1 := gT2 (List.mem_of_getElem? (i := 130) rfl)
theorem k_371 : (Cond.code ({ cls := "FlatBoxes$Packing", name := "layersBelow", desc := "(I)I" } : MethodName) prog_4_method_9_code (4 : Nat) (Option.some FieldType.int)) ∈ tables_1 := gT2 (List.mem_of_getElem? (i := 131) rfl)
theorem k_372 : (Cond.methodLink "FlatBoxes$Packing" (106 : Nat) ({ cls := "FlatBoxes$Packing", name := "isBelow", desc := "(II)Z" } : MethodName)) ∈ tables_1 := gT2 (List.mem_of_getElem? (i := 132) rfl)
theorem k_373 : (Cond.privateMethod ({ cls := "FlatBoxes$Packing", name := "isBelow", desc := "(II)Z" } : MethodName)) ∈ tables_1 := gT2 (List.mem_of_getElem? (i := 133) rfl)
theorem k_374 : (Cond.instanceMethod ({ cls := "FlatBoxes$Packing", name := "isBelow", desc := "(II)Z" } : MethodName)) ∈ tables_1 := gT2 (List.mem_of_getElem? (i := 134) rfl)
theorem k_375 : (Cond.code ({ cls := "FlatBoxes$Packing", name := "isBelow", desc := "(II)Z" } : MethodName) prog_4_method_11_code (3 : Nat) (Option.some FieldType.boolean)) ∈ tables_1 := gT2 (List.mem_of_getElem? (i := 135) rfl)
theorem k_376 : (Cond.methodLink "FlatBoxes$Shares" (95 : Nat) ({ cls := "FlatBoxes$Packing", name := "heightBelow", desc := "(I)I" } : MethodName)) ∈ tables_1 := gT2 (List.mem_of_getElem? (i := 136) rfl)
theorem k_377 : (Cond.instanceMethod ({ cls := "FlatBoxes$Packing", name := "heightBelow", desc := "(I)I" } : MethodName)) ∈ tables_1 := gT2 (List.mem_of_getElem? (i := 137) rfl)
theorem k_378 : (Cond.selects "FlatBoxes$Packing" ({ cls := "FlatBoxes$Packing", name := "heightBelow", desc := "(I)I" } : MethodName) ({ cls := "FlatBoxes$Packing", name := "heightBelow", desc := "(I)I" } : MethodName)) ∈ tables_1 := gT2 (List.mem_of_getElem? (i := 138) rfl)
theorem k_379 : (Cond.code ({ cls := "FlatBoxes$Packing", name := "heightBelow", desc := "(I)I" } : MethodName) prog_4_method_10_code (4 : Nat) (Option.some FieldType.int)) ∈ tables_1 := gT2 (List.mem_of_getElem? (i := 139) rfl)
theorem k_380 : (Cond.methodLink "FlatBoxesLaw" (61 : Nat) ({ cls := "FlatBoxesLaw", name := "cell", desc := "([II)I" } : MethodName)) ∈ tables_1 := gT2 (List.mem_of_getElem? (i := 140) rfl)
theorem k_381 : (Cond.static ({ cls := "FlatBoxesLaw", name := "cell", desc := "([II)I" } : MethodName)) ∈ tables_1 := gT2 (List.mem_of_getElem? (i := 141) rfl)
theorem k_382 : (Cond.code ({ cls := "FlatBoxesLaw", name := "cell", desc := "([II)I" } : MethodName) method_2_code (2 : Nat) (Option.some FieldType.int)) ∈ tables_1 := gT2 (List.mem_of_getElem? (i := 142) rfl)
theorem k_383 : (Cond.methodLink "FlatBoxesLaw" (73 : Nat) ({ cls := "FlatBoxesLaw", name := "carton", desc := "(LFlatBoxes;IIIII[J)I" } : MethodName)) ∈ tables_1 := gT2 (List.mem_of_getElem? (i := 143) rfl)
theorem k_384 : (Cond.static ({ cls := "FlatBoxesLaw", name := "carton", desc := "(LFlatBoxes;IIIII[J)I" } : MethodName)) ∈ tables_1 := gT2 (List.mem_of_getElem? (i := 144) rfl)
theorem k_385 : (Cond.codeWith ({ cls := "FlatBoxesLaw", name := "carton", desc := "(LFlatBoxes;IIIII[J)I" } : MethodName) method_3_code (8 : Nat) (Option.some FieldType.int) [((0 : Nat), (16 : Nat), (19 : Nat), (13 : Nat)), ((0 : Nat), (16 : Nat), (23 : Nat), (15 : Nat))]) ∈ tables_1 := gT2 (List.mem_of_getElem? (i := 145) rfl)
theorem k_386 : (Cond.classLink "FlatBoxesLaw" (13 : Nat) "java/lang/IllegalArgumentException") ∈ tables_1 := gT2 (List.mem_of_getElem? (i := 146) rfl)
theorem k_387 : (Cond.classLink "FlatBoxesLaw" (15 : Nat) "java/lang/IllegalStateException") ∈ tables_1 := gT2 (List.mem_of_getElem? (i := 147) rfl)
theorem k_388 : (Cond.methodLink "FlatBoxesLaw" (7 : Nat) ({ cls := "FlatBoxes", name := "carton", desc := "(IIIII)I" } : MethodName)) ∈ tables_1 := gT2 (List.mem_of_getElem? (i := 148) rfl)
theorem k_389 : (Cond.instanceMethod ({ cls := "FlatBoxes", name := "carton", desc := "(IIIII)I" } : MethodName)) ∈ tables_1 := gT2 (List.mem_of_getElem? (i := 149) rfl)
theorem k_390 : (Cond.selects "FlatBoxes" ({ cls := "FlatBoxes", name := "carton", desc := "(IIIII)I" } : MethodName) ({ cls := "FlatBoxes", name := "carton", desc := "(IIIII)I" } : MethodName)) ∈ tables_1 := gT2 (List.mem_of_getElem? (i := 150) rfl)
theorem k_391 : (Cond.code ({ cls := "FlatBoxes", name := "carton", desc := "(IIIII)I" } : MethodName) prog_1_method_2_code (6 : Nat) (Option.some FieldType.int)) ∈ tables_1 := gT2 (List.mem_of_getElem? (i := 151) rfl)
theorem k_392 : (Cond.methodLink "FlatBoxes" (62 : Nat) ({ cls := "FlatBoxes", name := "areSides", desc := "(III)Z" } : MethodName)) ∈ tables_1 := gT2 (List.mem_of_getElem? (i := 152) rfl)
theorem k_393 : (Cond.static ({ cls := "FlatBoxes", name := "areSides", desc := "(III)Z" } : MethodName)) ∈ tables_1 := gT2 (List.mem_of_getElem? (i := 153) rfl)
theorem k_394 : (Cond.code ({ cls := "FlatBoxes", name := "areSides", desc := "(III)Z" } : MethodName) prog_1_method_19_code (3 : Nat) (Option.some FieldType.boolean)) ∈ tables_1 := gT2 (List.mem_of_getElem? (i := 154) rfl)
theorem k_395 : (Cond.methodLink "FlatBoxes" (74 : Nat) ({ cls := "FlatBoxes", name := "isWithin", desc := "(III)Z" } : MethodName)) ∈ tables_1 := gT2 (List.mem_of_getElem? (i := 155) rfl)
theorem k_396 : (Cond.static ({ cls := "FlatBoxes", name := "isWithin", desc := "(III)Z" } : MethodName)) ∈ tables_1 := gT2 (List.mem_of_getElem? (i := 156) rfl)
theorem k_397 : (Cond.code ({ cls := "FlatBoxes", name := "isWithin", desc := "(III)Z" } : MethodName) prog_1_method_17_code (3 : Nat) (Option.some FieldType.boolean)) ∈ tables_1 := gT2 (List.mem_of_getElem? (i := 157) rfl)
theorem k_398 : (Cond.classLink "FlatBoxes" (66 : Nat) "java/lang/IllegalArgumentException") ∈ tables_1 := gT2 (List.mem_of_getElem? (i := 158) rfl)
theorem k_399 : (Cond.instantiable "java/lang/IllegalArgumentException" (6 : Nat)) ∈ tables_1 := gT2 (List.mem_of_getElem? (i := 159) rfl)
theorem k_400 : (Cond.castable "java/lang/IllegalArgumentException" "java/lang/IllegalArgumentException") ∈ tables_1 := gT2 (List.mem_of_getElem? (i := 160) rfl)
theorem k_401 : (Cond.declares ({ cls := "java/lang/RuntimeException", name := "<init>", desc := "()V" } : MethodName)) ∈ tables_1 := gT2 (List.mem_of_getElem? (i := 161) rfl)
theorem k_402 : (Cond.declares ({ cls := "java/lang/RuntimeException", name := "<init>", desc := "(Ljava/lang/String;)V" } : MethodName)) ∈ tables_1 := gT2 (List.mem_of_getElem? (i := 162) rfl)
theorem k_403 : (Cond.declares ({ cls := "java/lang/Exception", name := "<init>", desc := "()V" } : MethodName)) ∈ tables_1 := gT2 (List.mem_of_getElem? (i := 163) rfl)
theorem k_404 : (Cond.declares ({ cls := "java/lang/Exception", name := "<init>", desc := "(Ljava/lang/String;)V" } : MethodName)) ∈ tables_1 := gT2 (List.mem_of_getElem? (i := 164) rfl)
theorem k_405 : (Cond.declares ({ cls := "java/lang/Throwable", name := "<init>", desc := "()V" } : MethodName)) ∈ tables_1 := gT2 (List.mem_of_getElem? (i := 165) rfl)
theorem k_406 : (Cond.declares ({ cls := "java/lang/Throwable", name := "<init>", desc := "(Ljava/lang/String;)V" } : MethodName)) ∈ tables_1 := gT2 (List.mem_of_getElem? (i := 166) rfl)
theorem k_407 : (Cond.selects "java/lang/IllegalArgumentException" ({ cls := "java/lang/Throwable", name := "fillInStackTrace", desc := "(I)Ljava/lang/Throwable;" } : MethodName) ({ cls := "java/lang/Throwable", name := "fillInStackTrace", desc := "(I)Ljava/lang/Throwable;" } : MethodName)) ∈ tables_1 := gT2 (List.mem_of_getElem? (i := 167) rfl)
theorem k_408 : (Cond.selects "java/lang/IllegalArgumentException" ({ cls := "java/lang/Throwable", name := "fillInStackTrace", desc := "()Ljava/lang/Throwable;" } : MethodName) ({ cls := "java/lang/Throwable", name := "fillInStackTrace", desc := "()Ljava/lang/Throwable;" } : MethodName)) ∈ tables_1 := gT2 (List.mem_of_getElem? (i := 168) rfl)
theorem k_409 : (Cond.lays "java/lang/IllegalArgumentException" "java/lang/Throwable" "cause" "Ljava/lang/Throwable;") ∈ tables_1 := gT2 (List.mem_of_getElem? (i := 169) rfl)
theorem k_410 : (Cond.lays "java/lang/Throwable" "java/lang/Throwable" "cause" "Ljava/lang/Throwable;") ∈ tables_1 := gT2 (List.mem_of_getElem? (i := 170) rfl)
theorem k_411 : (Cond.lays "java/lang/IllegalArgumentException" "java/lang/Throwable" "stackTrace" "[Ljava/lang/StackTraceElement;") ∈ tables_1 := gT2 (List.mem_of_getElem? (i := 171) rfl)
theorem k_412 : (Cond.lays "java/lang/Throwable" "java/lang/Throwable" "stackTrace" "[Ljava/lang/StackTraceElement;") ∈ tables_1 := gT2 (List.mem_of_getElem? (i := 172) rfl)
theorem k_413 : (Cond.lays "java/lang/IllegalArgumentException" "java/lang/Throwable" "suppressedExceptions" "Ljava/util/List;") ∈ tables_1 := gT2 (List.mem_of_getElem? (i := 173) rfl)
theorem k_414 : (Cond.lays "java/lang/Throwable" "java/lang/Throwable" "suppressedExceptions" "Ljava/util/List;") ∈ tables_1 := gT2 (List.mem_of_getElem? (i := 174) rfl)
theorem k_415 : (Cond.lays "java/lang/IllegalArgumentException" "java/lang/Throwable" "detailMessage" "Ljava/lang/String;") ∈ tables_1 := gT2 (List.mem_of_getElem? (i := 175) rfl)
theorem k_416 : (Cond.lays "java/lang/Throwable" "java/lang/Throwable" "detailMessage" "Ljava/lang/String;") ∈ tables_1 := gT2 (List.mem_of_getElem? (i := 176) rfl)
theorem k_417 : (Cond.lays "java/lang/IllegalArgumentException" "java/lang/Throwable" "backtrace" "Ljava/lang/Object;") ∈ tables_1 := gT2 (List.mem_of_getElem? (i := 177) rfl)
theorem k_418 : (Cond.lays "java/lang/Throwable" "java/lang/Throwable" "backtrace" "Ljava/lang/Object;") ∈ tables_1 := gT2 (List.mem_of_getElem? (i := 178) rfl)
theorem k_419 : (Cond.fieldLink "java/lang/Throwable" (198 : Nat) "java/lang/Throwable" "backtrace" "Ljava/lang/Object;") ∈ tables_1 := gT2 (List.mem_of_getElem? (i := 179) rfl)
theorem k_420 : (Cond.superclass "java/lang/Throwable" "java/lang/Object") ∈ tables_1 := gT2 (List.mem_of_getElem? (i := 180) rfl)
theorem k_421 : (Cond.instanceMethod ({ cls := "java/lang/Throwable", name := "<init>", desc := "()V" } : MethodName)) ∈ tables_1 := gT2 (List.mem_of_getElem? (i := 181) rfl)
theorem k_422 : (Cond.code ({ cls := "java/lang/Throwable", name := "<init>", desc := "()V" } : MethodName) prog_19_method_1_code (1 : Nat) (Option.none : Option ClassFile.FieldType)) ∈ tables_1 := gT2 (List.mem_of_getElem? (i := 182) rfl)
theorem k_423 : (Cond.methodLink "java/lang/Throwable" (1 : Nat) ({ cls := "java/lang/Object", name := "<init>", desc := "()V" } : MethodName)) ∈ tables_1 := gT2 (List.mem_of_getElem? (i := 183) rfl)
theorem k_424 : (Cond.fieldLink "java/lang/Throwable" (13 : Nat) "java/lang/Throwable" "UNASSIGNED_STACK" "[Ljava/lang/StackTraceElement;") ∈ tables_1 := gT2 (List.mem_of_getElem? (i := 184) rfl)
theorem k_425 : (Cond.laysStatic "java/lang/Throwable" "UNASSIGNED_STACK" "[Ljava/lang/StackTraceElement;") ∈ tables_1 := gT2 (List.mem_of_getElem? (i := 185) rfl)
theorem k_426 : (Cond.fieldLink "java/lang/Throwable" (20 : Nat) "java/lang/Throwable" "SUPPRESSED_SENTINEL" "Ljava/util/List;") ∈ tables_1 := gT2 (List.mem_of_getElem? (i := 186) rfl)
theorem k_427 : (Cond.laysStatic "java/lang/Throwable" "SUPPRESSED_SENTINEL" "Ljava/util/List;") ∈ tables_1 := gT2 (List.mem_of_getElem? (i := 187) rfl)
theorem k_428 : (Cond.methodLink "java/lang/Throwable" (27 : Nat) ({ cls := "java/lang/Throwable", name := "fillInStackTrace", desc := "()Ljava/lang/Throwable;" } : MethodName)) ∈ tables_1 := gT2 (List.mem_of_getElem? (i := 188) rfl)
theorem k_429 : (Cond.instanceMethod ({ cls := "java/lang/Throwable", name := "fillInStackTrace", desc := "()Ljava/lang/Throwable;" } : MethodName)) ∈ tables_1 := gT2 (List.mem_of_getElem? (i := 189) rfl)
theorem k_430 : (Cond.sameMethod "java/lang/Throwable" "java/lang/Throwable" "fillInStackTrace" "()Ljava/lang/Throwable;") ∈ tables_1 := gT2 (List.mem_of_getElem? (i := 190) rfl)
theorem k_431 : (Cond.selects "java/lang/IllegalStateException" ({ cls := "java/lang/Throwable", name := "fillInStackTrace", desc := "()Ljava/lang/Throwable;" } : MethodName) ({ cls := "java/lang/Throwable", name := "fillInStackTrace", desc := "()Ljava/lang/Throwable;" } : MethodName)) ∈ tables_1 := gT2 (List.mem_of_getElem? (i := 191) rfl)
theorem k_432 : (Cond.selects "java/lang/IndexOutOfBoundsException" ({ cls := "java/lang/Throwable", name := "fillInStackTrace", desc := "()Ljava/lang/Throwable;" } : MethodName) ({ cls := "java/lang/Throwable", name := "fillInStackTrace", desc := "()Ljava/lang/Throwable;" } : MethodName)) ∈ tables_1 := gT2 (List.mem_of_getElem? (i := 192) rfl)
theorem k_433 : (Cond.codeSync ({ cls := "java/lang/Throwable", name := "fillInStackTrace", desc := "()Ljava/lang/Throwable;" } : MethodName) prog_19_method_18_code (1 : Nat) (Option.some (FieldType.object "java/lang/Throwable"))) ∈ tables_1 := gT2 (List.mem_of_getElem? (i := 193) rfl)
theorem k_434 : (Cond.methodLink "java/lang/Throwable" (202 : Nat) ({ cls := "java/lang/Throwable", name := "fillInStackTrace", desc := "(I)Ljava/lang/Throwable;" } : MethodName)) ∈ tables_1 := gT2 (List.mem_of_getElem? (i := 194) rfl)
theorem k_435 : (Cond.privateMethod ({ cls := "java/lang/Throwable", name := "fillInStackTrace", desc := "(I)Ljava/lang/Throwable;" } : MethodName)) ∈ tables_1 := gT2 (List.mem_of_getElem? (i := 195) rfl)
theorem k_436 : (Cond.instanceMethod ({ cls := "java/lang/Throwable", name := "fillInStackTrace", desc := "(I)Ljava/lang/Throwable;" } : MethodName)) ∈ tables_1 := gT2 (List.mem_of_getElem? (i := 196) rfl)
theorem k_437 : (Cond.instantiable "java/lang/Throwable" (6 : Nat)) ∈ tables_1 := gT2 (List.mem_of_getElem? (i := 197) rfl)
theorem k_438 : (Cond.native ({ cls := "java/lang/Throwable", name := "fillInStackTrace", desc := "(I)Ljava/lang/Throwable;" } : MethodName)) ∈ tables_1 := gT2 (List.mem_of_getElem? (i := 198) rfl)
theorem k_439 : (Cond.stringRef "FlatBoxes" (68 : Nat) "a side is not 1 .. 100") ∈ tables_1 := gT2 (List.mem_of_getElem? (i := 199) rfl)
theorem k_440 : (Cond.methodLink "FlatBoxes" (70 : Nat) ({ cls := "java/lang/IllegalArgumentException", name := "<init>", desc := "(Ljava/lang/String;)V" } : MethodName)) ∈ tables_1 := gT2 (List.mem_of_getElem? (i := 200) rfl)
theorem k_441 : (Cond.instanceMethod ({ cls := "java/lang/IllegalArgumentException", name := "<init>", desc := "(Ljava/lang/String;)V" } : MethodName)) ∈ tables_1 := gT2 (List.mem_of_getElem? (i := 201) rfl)
theorem k_442 : (Cond.code ({ cls := "java/lang/IllegalArgumentException", name := "<init>", desc := "(Ljava/lang/String;)V" } : MethodName) prog_11_method_2_code (2 : Nat) (Option.none : Option ClassFile.FieldType)) ∈ tables_1 := gT2 (List.mem_of_getElem? (i := 202) rfl)
theorem k_443 : (Cond.methodLink "java/lang/IllegalArgumentException" (7 : Nat) ({ cls := "java/lang/RuntimeException", name := "<init>", desc := "(Ljava/lang/String;)V" } : MethodName)) ∈ tables_1 := gT2 (List.mem_of_getElem? (i := 203) rfl)
theorem k_444 : (Cond.instanceMethod ({ cls := "java/lang/RuntimeException", name := "<init>", desc := "(Ljava/lang/String;)V" } : MethodName)) ∈ tables_1 := gT2 (List.mem_of_getElem? (i := 204) rfl)
theorem k_445 : (Cond.code ({ cls := "java/lang/RuntimeException", name := "<init>", desc := "(Ljava/lang/String;)V" } : MethodName) prog_16_method_2_code (2 : Nat) (Option.none : Option ClassFile.FieldType)) ∈ tables_1 := gT2 (List.mem_of_getElem? (i := 205) rfl)
theorem k_446 : (Cond.methodLink "java/lang/RuntimeException" (7 : Nat) ({ cls := "java/lang/Exception", name := "<init>", desc := "(Ljava/lang/String;)V" } : MethodName)) ∈ tables_1 := gT2 (List.mem_of_getElem? (i := 206) rfl)
theorem k_447 : (Cond.instanceMethod ({ cls := "java/lang/Exception", name := "<init>", desc := "(Ljava/lang/String;)V" } : MethodName)) ∈ tables_1 := gT2 (List.mem_of_getElem? (i := 207) rfl)
theorem k_448 : (Cond.code ({ cls := "java/lang/Exception", name := "<init>", desc := "(Ljava/lang/String;)V" } : MethodName) prog_10_method_2_code (2 : Nat) (Option.none : Option ClassFile.FieldType)) ∈ tables_1 := gT2 (List.mem_of_getElem? (i := 208) rfl)
theorem k_449 : (Cond.methodLink "java/lang/Exception" (7 : Nat) ({ cls := "java/lang/Throwable", name := "<init>", desc := "(Ljava/lang/String;)V" } : MethodName)) ∈ tables_1 := gT2 (List.mem_of_getElem? (i := 209) rfl)
theorem k_450 : (Cond.instanceMethod ({ cls := "java/lang/Throwable", name := "<init>", desc := "(Ljava/lang/String;)V" } : MethodName)) ∈ tables_1 := gT2 (List.mem_of_getElem? (i := 210) rfl)
theorem k_451 : (Cond.code ({ cls := "java/lang/Throwable", name := "<init>", desc := "(Ljava/lang/String;)V" } : MethodName) prog_19_method_2_code (2 : Nat) (Option.none : Option ClassFile.FieldType)) ∈ tables_1 := gT2 (List.mem_of_getElem? (i := 211) rfl)
theorem k_452 : (Cond.fieldLink "java/lang/Throwable" (198 : Nat) "java/lang/Throwable" "backtrace" "Ljava/lang/Object;") ∈ tables_1 := gT2 (List.mem_of_getElem? (i := 212) rfl)
theorem k_453 : (Cond.fieldLink "java/lang/Throwable" (31 : Nat) "java/lang/Throwable" "detailMessage" "Ljava/lang/String;") ∈ tables_1 := gT2 (List.mem_of_getElem? (i := 213) rfl)
theorem k_454 : (Cond.fieldLink "java/lang/Throwable" (7 : Nat) "java/lang/Throwable" "cause" "Ljava/lang/Throwable;") ∈ tables_1 := gT2 (List.mem_of_getElem? (i := 214) rfl)
theorem k_455 : (Cond.fieldLink "java/lang/Throwable" (17 : Nat) "java/lang/Throwable" "stackTrace" "[Ljava/lang/StackTraceElement;") ∈ tables_1 := gT2 (List.mem_of_getElem? (i := 215) rfl)
theorem k_456 : (Cond.fieldLink "java/lang/Throwable" (24 : Nat) "java/lang/Throwable" "suppressedExceptions" "Ljava/util/List;") ∈ tables_1 := gT2 (List.mem_of_getElem? (i := 216) rfl)
theorem k_457 : (Cond.soleField "java/lang/Throwable" "backtrace") ∈ tables_1 := gT2 (List.mem_of_getElem? (i := 217) rfl)
theorem k_458 : (Cond.soleField "java/lang/Throwable" "detailMessage") ∈ tables_1 := gT2 (List.mem_of_getElem? (i := 218) rfl)
theorem k_459 : (Cond.soleField "java/lang/Throwable" "cause") ∈ tables_1 := gT2 (List.mem_of_getElem? (i := 219) rfl)
theorem k_460 : (Cond.soleField "java/lang/Throwable" "stackTrace") ∈ tables_1 := gT2 (List.mem_of_getElem? (i := 220) rfl)
theorem k_461 : (Cond.lays "java/lang/IllegalArgumentException" "java/lang/Throwable" "depth" "I") ∈ tables_1 := gT2 (List.mem_of_getElem? (i := 221) rfl)
theorem k_462 : (Cond.soleField "java/lang/Throwable" "depth") ∈ tables_1 := gT2 (List.mem_of_getElem? (i := 222) rfl)
theorem k_463 : (Cond.soleField "java/lang/Throwable" "suppressedExceptions") ∈ tables_1 := gT2 (List.mem_of_getElem? (i := 223) rfl)
theorem k_464 : (Cond.superclass "java/lang/IllegalArgumentException" "java/lang/RuntimeException") ∈ tables_1 := gT2 (List.mem_of_getElem? (i := 224) rfl)
theorem k_465 : (Cond.arrayClass FieldType.byte) ∈ tables_1 := gT2 (List.mem_of_getElem? (i := 225) rfl)
theorem k_466 : (Cond.constant "FlatBoxes" (73 : Nat) (100000 : Int32)) ∈ tables_1 := gT2 (List.mem_of_getElem? (i := 226) rfl)
theorem k_467 : (Cond.stringRef "FlatBoxes" (77 : Nat) "cents or grams are not 1 .. 100000") ∈ tables_1 := gT2 (List.mem_of_getElem? (i := 227) rfl)
theorem k_468 : (Cond.classLink "FlatBoxes" (83 : Nat) "java/lang/IllegalStateException") ∈ tables_1 := gT2 (List.mem_of_getElem? (i := 228) rfl)
theorem k_469 : (Cond.instantiable "java/lang/IllegalStateException" (6 : Nat)) ∈ tables_1 := gT2 (List.mem_of_getElem? (i := 229) rfl)
theorem k_470 : (Cond.castable "java/lang/IllegalStateException" "java/lang/IllegalStateException") ∈ tables_1 := gT2 (List.mem_of_getElem? (i := 230) rfl)
theorem k_471 : (Cond.selects "java/lang/IllegalStateException" ({ cls := "java/lang/Throwable", name := "fillInStackTrace", desc := "(I)Ljava/lang/Throwable;" } : MethodName) ({ cls := "java/lang/Throwable", name := "fillInStackTrace", desc := "(I)Ljava/lang/Throwable;" } : MethodName)) ∈ tables_1 := gT2 (List.mem_of_getElem? (i := 231) rfl)
theorem k_472 : (Cond.lays "java/lang/IllegalStateException" "java/lang/Throwable" "cause" "Ljava/lang/Throwable;") ∈ tables_1 := gT2 (List.mem_of_getElem? (i := 232) rfl)
theorem k_473 : (Cond.lays "java/lang/IllegalStateException" "java/lang/Throwable" "stackTrace" "[Ljava/lang/StackTraceElement;") ∈ tables_1 := gT2 (List.mem_of_getElem? (i := 233) rfl)
theorem k_474 : (Cond.lays "java/lang/IllegalStateException" "java/lang/Throwable" "suppressedExceptions" "Ljava/util/List;") ∈ tables_1 := gT2 (List.mem_of_getElem? (i := 234) rfl)
theorem k_475 : (Cond.lays "java/lang/IllegalStateException" "java/lang/Throwable" "detailMessage" "Ljava/lang/String;") ∈ tables_1 := gT2 (List.mem_of_getElem? (i := 235) rfl)
theorem k_476 : (Cond.lays "java/lang/IllegalStateException" "java/lang/Throwable" "backtrace" "Ljava/lang/Object;") ∈ tables_1 := gT2 (List.mem_of_getElem? (i := 236) rfl)
theorem k_477 : (Cond.stringRef "FlatBoxes" (85 : Nat) "there are 4 cartons") ∈ tables_1 := gT2 (List.mem_of_getElem? (i := 237) rfl)
theorem k_478 : (Cond.methodLink "FlatBoxes" (87 : Nat) ({ cls := "java/lang/IllegalStateException", name := "<init>", desc := "(Ljava/lang/String;)V" } : MethodName)) ∈ tables_1 := gT2 (List.mem_of_getElem? (i := 238) rfl)
theorem k_479 : (Cond.instanceMethod ({ cls := "java/lang/IllegalStateException", name := "<init>", desc := "(Ljava/lang/String;)V" } : MethodName)) ∈ tables_1 := gT2 (List.mem_of_getElem? (i := 239) rfl)
theorem k_480 : (Cond.code ({ cls := "java/lang/IllegalStateException", name := "<init>", desc := "(Ljava/lang/String;)V" } : MethodName) prog_12_method_2_code (2 : Nat) (Option.none : Option ClassFile.FieldType)) ∈ tables_1 := gT3 (List.mem_of_getElem? (i := 0) rfl)
theorem k_481 : (Cond.methodLink "java/lang/IllegalStateException" (7 : Nat) ({ cls := "java/lang/RuntimeException", name := "<init>", desc := "(Ljava/lang/String;)V" } : MethodName)) ∈ tables_1 := gT3 (List.mem_of_getElem? (i := 1) rfl)
theorem k_482 : (Cond.lays "java/lang/IllegalStateException" "java/lang/Throwable" "depth" "I") ∈ tables_1 := gT3 (List.mem_of_getElem? (i := 2) rfl)
theorem k_483 : (Cond.superclass "java/lang/IllegalStateException" "java/lang/RuntimeException") ∈ tables_1 := gT3 (List.mem_of_getElem? (i := 3) rfl)
theorem k_484 : (Cond.methodLink "FlatBoxes" (88 : Nat) ({ cls := "FlatBoxes$Shares", name := "forget", desc := "()V" } : MethodName)) ∈ tables_1 := gT3 (List.mem_of_getElem? (i := 4) rfl)
theorem k_485 : (Cond.instanceMethod ({ cls := "FlatBoxes$Shares", name := "forget", desc := "()V" } : MethodName)) ∈ tables_1 := gT3 (List.mem_of_getElem? (i := 5) rfl)
theorem k_486 : (Cond.selects "FlatBoxes$Shares" ({ cls := "FlatBoxes$Shares", name := "forget", desc := "()V" } : MethodName) ({ cls := "FlatBoxes$Shares", name := "forget", desc := "()V" } : MethodName)) ∈ tables_1 := gT3 (List.mem_of_getElem? (i := 6) rfl)
theorem k_487 : (Cond.code ({ cls := "FlatBoxes$Shares", name := "forget", desc := "()V" } : MethodName) prog_7_method_2_code (1 : Nat) (Option.none : Option ClassFile.FieldType)) ∈ tables_1 := gT3 (List.mem_of_getElem? (i := 7) rfl)
theorem k_488 : (Cond.methodLink "FlatBoxes" (91 : Nat) ({ cls := "FlatBoxes$Cartons", name := "add", desc := "(IIIII)I" } : MethodName)) ∈ tables_1 := gT3 (List.mem_of_getElem? (i := 8) rfl)
theorem k_489 : (Cond.instanceMethod ({ cls := "FlatBoxes$Cartons", name := "add", desc := "(IIIII)I" } : MethodName)) ∈ tables_1 := gT3 (List.mem_of_getElem? (i := 9) rfl)
theorem k_490 : (Cond.selects "FlatBoxes$Cartons" ({ cls := "FlatBoxes$Cartons", name := "add", desc := "(IIIII)I" } : MethodName) ({ cls := "FlatBoxes$Cartons", name := "add", desc := "(IIIII)I" } : MethodName)) ∈ tables_1 := gT3 (List.mem_of_getElem? (i := 10) rfl)
theorem k_491 : (Cond.code ({ cls := "FlatBoxes$Cartons", name := "add", desc := "(IIIII)I" } : MethodName) prog_3_method_2_code (7 : Nat) (Option.some FieldType.int)) ∈ tables_1 := gT3 (List.mem_of_getElem? (i := 11) rfl)
theorem k_492 : (Cond.methodLink "FlatBoxesLaw" (80 : Nat) ({ cls := "FlatBoxesLaw", name := "part", desc := "(LFlatBoxes;IIIII[J)I" } : MethodName)) ∈ tables_1 := gT3 (List.mem_of_getElem? (i := 12) rfl)
theorem k_493 : (Cond.static ({ cls := "FlatBoxesLaw", name := "part", desc := "(LFlatBoxes;IIIII[J)I" } : MethodName)) ∈ tables_1 := gT3 (List.mem_of_getElem? (i := 13) rfl)
theorem k_494 : (Cond.codeWith ({ cls := "FlatBoxesLaw", name := "part", desc := "(LFlatBoxes;IIIII[J)I" } : MethodName) method_4_code (8 : Nat) (Option.some FieldType.int) [((0 : Nat), (16 : Nat), (19 : Nat), (13 : Nat)), ((0 : Nat), (16 : Nat), (23 : Nat), (15 : Nat))]) ∈ tables_1 := gT3 (List.mem_of_getElem? (i := 14) rfl)
theorem k_495 : (Cond.methodLink "FlatBoxesLaw" (17 : Nat) ({ cls := "FlatBoxes", name := "part", desc := "(IIIII)I" } : MethodName)) ∈ tables_1 := gT3 (List.mem_of_getElem? (i := 15) rfl)
theorem k_496 : (Cond.instanceMethod ({ cls := "FlatBoxes", name := "part", desc := "(IIIII)I" } : MethodName)) ∈ tables_1 := gT3 (List.mem_of_getElem? (i := 16) rfl)
theorem k_497 : (Cond.selects "FlatBoxes" ({ cls := "FlatBoxes", name := "part", desc := "(IIIII)I" } : MethodName) ({ cls := "FlatBoxes", name := "part", desc := "(IIIII)I" } : MethodName)) ∈ tables_1 := gT3 (List.mem_of_getElem? (i := 17) rfl)
theorem k_498 : (Cond.code ({ cls := "FlatBoxes", name := "part", desc := "(IIIII)I" } : MethodName) prog_1_method_3_code (6 : Nat) (Option.some FieldType.int)) ∈ tables_1 := gT3 (List.mem_of_getElem? (i := 18) rfl)
theorem k_499 : (Cond.constant "FlatBoxes" (95 : Nat) (50000 : Int32)) ∈ tables_1 := gT3 (List.mem_of_getElem? (i := 19) rfl)
theorem k_500 : (Cond.stringRef "FlatBoxes" (96 : Nat) "grams are not 1 .. 50000, or step is not 0 .. 50") ∈ tables_1 := gT3 (List.mem_of_getElem? (i := 20) rfl)
theorem k_501 : (Cond.stringRef "FlatBoxes" (99 : Nat) "there are 8 parts") ∈ tables_1 := gT3 (List.mem_of_getElem? (i := 21) rfl)
theorem k_502 : (Cond.methodLink "FlatBoxes" (101 : Nat) ({ cls := "FlatBoxes$Parts", name := "add", desc := "(IIIII)I" } : MethodName)) ∈ tables_1 := gT3 (List.mem_of_getElem? (i := 22) rfl)
theorem k_503 : (Cond.instanceMethod ({ cls := "FlatBoxes$Parts", name := "add", desc := "(IIIII)I" } : MethodName)) ∈ tables_1 := gT3 (List.mem_of_getElem? (i := 23) rfl)
theorem k_504 : (Cond.selects "FlatBoxes$Parts" ({ cls := "FlatBoxes$Parts", name := "add", desc := "(IIIII)I" } : MethodName) ({ cls := "FlatBoxes$Parts", name := "add", desc := "(IIIII)I" } : MethodName)) ∈ tables_1 := gT3 (List.mem_of_getElem? (i := 24) rfl)
theorem k_505 : (Cond.code ({ cls := "FlatBoxes$Parts", name := "add", desc := "(IIIII)I" } : MethodName) prog_5_method_2_code (7 : Nat) (Option.some FieldType.int)) ∈ tables_1 := gT3 (List.mem_of_getElem? (i := 25) rfl)
theorem k_506 : (Cond.methodLink "FlatBoxes$Parts" (41 : Nat) ({ cls := "FlatBoxes$Parts", name := "sortInByThickness", desc := "(I)V" } : MethodName)) ∈ tables_1 := gT3 (List.mem_of_getElem? (i := 26) rfl)
theorem k_507 : (Cond.privateMethod ({ cls := "FlatBoxes$Parts", name := "sortInByThickness", desc := "(I)V" } : MethodName)) ∈ tables_1 := gT3 (List.mem_of_getElem? (i := 27) rfl)
theorem k_508 : (Cond.instanceMethod ({ cls := "FlatBoxes$Parts", name := "sortInByThickness", desc := "(I)V" } : MethodName)) ∈ tables_1 := gT3 (List.mem_of_getElem? (i := 28) rfl)
theorem k_509 : (Cond.code ({ cls := "FlatBoxes$Parts", name := "sortInByThickness", desc := "(I)V" } : MethodName) prog_5_method_3_code (3 : Nat) (Option.none : Option ClassFile.FieldType)) ∈ tables_1 := gT3 (List.mem_of_getElem? (i := 29) rfl)
theorem k_510 : (Cond.methodLink "FlatBoxes$Parts" (45 : Nat) ({ cls := "FlatBoxes$Parts", name := "sortInByStep", desc := "(I)V" } : MethodName)) ∈ tables_1 := gT3 (List.mem_of_getElem? (i := 30) rfl)
theorem k_511 : (Cond.privateMethod ({ cls := "FlatBoxes$Parts", name := "sortInByStep", desc := "(I)V" } : MethodName)) ∈ tables_1 := gT3 (List.mem_of_getElem? (i := 31) rfl)
theorem k_512 : (Cond.instanceMethod ({ cls := "FlatBoxes$Parts", name := "sortInByStep", desc := "(I)V" } : MethodName)) ∈ tables_1 := gT3 (List.mem_of_getElem? (i := 32) rfl)
theorem k_513 : (Cond.code ({ cls := "FlatBoxes$Parts", name := "sortInByStep", desc := "(I)V" } : MethodName) prog_5_method_4_code (3 : Nat) (Option.none : Option ClassFile.FieldType)) ∈ tables_1 := gT3 (List.mem_of_getElem? (i := 33) rfl)
theorem k_514 : (Cond.methodLink "FlatBoxesLaw" (83 : Nat) ({ cls := "FlatBoxesLaw", name := "fragile", desc := "(LFlatBoxes;IZ[J)I" } : MethodName)) ∈ tables_1 := gT3 (List.mem_of_getElem? (i := 34) rfl)
theorem k_515 : (Cond.static ({ cls := "FlatBoxesLaw", name := "fragile", desc := "(LFlatBoxes;IZ[J)I" } : MethodName)) ∈ tables_1 := gT3 (List.mem_of_getElem? (i := 35) rfl)
theorem k_516 : (Cond.codeWith ({ cls := "FlatBoxesLaw", name := "fragile", desc := "(LFlatBoxes;IZ[J)I" } : MethodName) method_5_code (5 : Nat) (Option.some FieldType.int) [((0 : Nat), (17 : Nat), (20 : Nat), (24 : Nat))]) ∈ tables_1 := gT3 (List.mem_of_getElem? (i := 36) rfl)
theorem k_517 : (Cond.classLink "FlatBoxesLaw" (24 : Nat) "java/lang/IndexOutOfBoundsException") ∈ tables_1 := gT3 (List.mem_of_getElem? (i := 37) rfl)
theorem k_518 : (Cond.methodLink "FlatBoxesLaw" (20 : Nat) ({ cls := "FlatBoxes", name := "fragile", desc := "(IZ)Z" } : MethodName)) ∈ tables_1 := gT3 (List.mem_of_getElem? (i := 38) rfl)
theorem k_519 : (Cond.instanceMethod ({ cls := "FlatBoxes", name := "fragile", desc := "(IZ)Z" } : MethodName)) ∈ tables_1 := gT3 (List.mem_of_getElem? (i := 39) rfl)
theorem k_520 : (Cond.selects "FlatBoxes" ({ cls := "FlatBoxes", name := "fragile", desc := "(IZ)Z" } : MethodName) ({ cls := "FlatBoxes", name := "fragile", desc := "(IZ)Z" } : MethodName)) ∈ tables_1 := gT3 (List.mem_of_getElem? (i := 40) rfl)
theorem k_521 : (Cond.code ({ cls := "FlatBoxes", name := "fragile", desc := "(IZ)Z" } : MethodName) prog_1_method_4_code (3 : Nat) (Option.some FieldType.boolean)) ∈ tables_1 := gT3 (List.mem_of_getElem? (i := 41) rfl)
theorem k_522 : (Cond.methodLink "FlatBoxes" (102 : Nat) ({ cls := "FlatBoxes", name := "isPlace", desc := "(II)Z" } : MethodName)) ∈ tables_1 := gT3 (List.mem_of_getElem? (i := 42) rfl)
theorem k_523 : (Cond.static ({ cls := "FlatBoxes", name := "isPlace", desc := "(II)Z" } : MethodName)) ∈ tables_1 := gT3 (List.mem_of_getElem? (i := 43) rfl)
theorem k_524 : (Cond.code ({ cls := "FlatBoxes", name := "isPlace", desc := "(II)Z" } : MethodName) prog_1_method_18_code (2 : Nat) (Option.some FieldType.boolean)) ∈ tables_1 := gT3 (List.mem_of_getElem? (i := 44) rfl)
theorem k_525 : (Cond.classLink "FlatBoxes" (106 : Nat) "java/lang/IndexOutOfBoundsException") ∈ tables_1 := gT3 (List.mem_of_getElem? (i := 45) rfl)
theorem k_526 : (Cond.instantiable "java/lang/IndexOutOfBoundsException" (6 : Nat)) ∈ tables_1 := gT3 (List.mem_of_getElem? (i := 46) rfl)
theorem k_527 : (Cond.castable "java/lang/IndexOutOfBoundsException" "java/lang/IndexOutOfBoundsException") ∈ tables_1 := gT3 (List.mem_of_getElem? (i := 47) rfl)
theorem k_528 : (Cond.selects "java/lang/IndexOutOfBoundsException" ({ cls := "java/lang/Throwable", name := "fillInStackTrace", desc := "(I)Ljava/lang/Throwable;" } : MethodName) ({ cls := "java/lang/Throwable", name := "fillInStackTrace", desc := "(I)Ljava/lang/Throwable;" } : MethodName)) ∈ tables_1 := gT3 (List.mem_of_getElem? (i := 48) rfl)
theorem k_529 : (Cond.lays "java/lang/IndexOutOfBoundsException" "java/lang/Throwable" "cause" "Ljava/lang/Throwable;") ∈ tables_1 := gT3 (List.mem_of_getElem? (i := 49) rfl)
theorem k_530 : (Cond.lays "java/lang/IndexOutOfBoundsException" "java/lang/Throwable" "stackTrace" "[Ljava/lang/StackTraceElement;") ∈ tables_1 := gT3 (List.mem_of_getElem? (i := 50) rfl)
theorem k_531 : (Cond.lays "java/lang/IndexOutOfBoundsException" "java/lang/Throwable" "suppressedExceptions" "Ljava/util/List;") ∈ tables_1 := gT3 (List.mem_of_getElem? (i := 51) rfl)
theorem k_532 : (Cond.lays "java/lang/IndexOutOfBoundsException" "java/lang/Throwable" "detailMessage" "Ljava/lang/String;") ∈ tables_1 := gT3 (List.mem_of_getElem? (i := 52) rfl)
theorem k_533 : (Cond.lays "java/lang/IndexOutOfBoundsException" "java/lang/Throwable" "backtrace" "Ljava/lang/Object;") ∈ tables_1 := gT3 (List.mem_of_getElem? (i := 53) rfl)
theorem k_534 : (Cond.stringRef "FlatBoxes" (108 : Nat) "no such part") ∈ tables_1 := gT3 (List.mem_of_getElem? (i := 54) rfl)
theorem k_535 : (Cond.methodLink "FlatBoxes" (110 : Nat) ({ cls := "java/lang/IndexOutOfBoundsException", name := "<init>", desc := "(Ljava/lang/String;)V" } : MethodName)) ∈ tables_1 := gT3 (List.mem_of_getElem? (i := 55) rfl)
theorem k_536 : (Cond.instanceMethod ({ cls := "java/lang/IndexOutOfBoundsException", name := "<init>", desc := "(Ljava/lang/String;)V" } : MethodName)) ∈ tables_1 := gT3 (List.mem_of_getElem? (i := 56) rfl)
theorem k_537 : (Cond.code ({ cls := "java/lang/IndexOutOfBoundsException", name := "<init>", desc := "(Ljava/lang/String;)V" } : MethodName) prog_13_method_2_code (2 : Nat) (Option.none : Option ClassFile.FieldType)) ∈ tables_1 := gT3 (List.mem_of_getElem? (i := 57) rfl)
theorem k_538 : (Cond.methodLink "java/lang/IndexOutOfBoundsException" (7 : Nat) ({ cls := "java/lang/RuntimeException", name := "<init>", desc := "(Ljava/lang/String;)V" } : MethodName)) ∈ tables_1 := gT3 (List.mem_of_getElem? (i := 58) rfl)
theorem k_539 : (Cond.lays "java/lang/IndexOutOfBoundsException" "java/lang/Throwable" "depth" "I") ∈ tables_1 := gT3 (List.mem_of_getElem? (i := 59) rfl)
theorem k_540 : (Cond.superclass "java/lang/IndexOutOfBoundsException" "java/lang/RuntimeException") ∈ tables_1 := gT3 (List.mem_of_getElem? (i := 60) rfl)
theorem k_541 : (Cond.methodLink "FlatBoxesLaw" (87 : Nat) ({ cls := "FlatBoxesLaw", name := "fits", desc := "(LFlatBoxes;II[J)I" } : MethodName)) ∈ tables_1 := gT3 (List.mem_of_getElem? (i := 61) rfl)
theorem k_542 : (Cond.static ({ cls := "FlatBoxesLaw", name := "fits", desc := "(LFlatBoxes;II[J)I" } : MethodName)) ∈ tables_1 := gT3 (List.mem_of_getElem? (i := 62) rfl)
theorem k_543 : (Cond.codeWith ({ cls := "FlatBoxesLaw", name := "fits", desc := "(LFlatBoxes;II[J)I" } : MethodName) method_6_code (5 : Nat) (Option.some FieldType.int) [((0 : Nat), (17 : Nat), (20 : Nat), (24 : Nat)), ((0 : Nat), (17 : Nat), (24 : Nat), (13 : Nat))]) ∈ tables_1 := gT3 (List.mem_of_getElem? (i := 63) rfl)
theorem k_544 : (Cond.methodLink "FlatBoxesLaw" (26 : Nat) ({ cls := "FlatBoxes", name := "fits", desc := "(II)Z" } : MethodName)) ∈ tables_1 := gT3 (List.mem_of_getElem? (i := 64) rfl)
theorem k_545 : (Cond.instanceMethod ({ cls := "FlatBoxes", name := "fits", desc := "(II)Z" } : MethodName)) ∈ tables_1 := gT3 (List.mem_of_getElem? (i := 65) rfl)
theorem k_546 : (Cond.selects "FlatBoxes" ({ cls := "FlatBoxes", name := "fits", desc := "(II)Z" } : MethodName) ({ cls := "FlatBoxes", name := "fits", desc := "(II)Z" } : MethodName)) ∈ tables_1 := gT3 (List.mem_of_getElem? (i := 66) rfl)
theorem k_547 : (Cond.code ({ cls := "FlatBoxes", name := "fits", desc := "(II)Z" } : MethodName) prog_1_method_5_code (3 : Nat) (Option.some FieldType.boolean)) ∈ tables_1 := gT3 (List.mem_of_getElem? (i := 67) rfl)
theorem k_548 : (Cond.stringRef "FlatBoxes" (115 : Nat) "no such carton") ∈ tables_1 := gT3 (List.mem_of_getElem? (i := 68) rfl)
theorem k_549 : (Cond.methodLink "FlatBoxes" (117 : Nat) ({ cls := "FlatBoxes$Parts", name := "everyPart", desc := "()I" } : MethodName)) ∈ tables_1 := gT3 (List.mem_of_getElem? (i := 69) rfl)
theorem k_550 : (Cond.stringRef "FlatBoxes" (121 : Nat) "no parts, or one that is not there") ∈ tables_1 := gT3 (List.mem_of_getElem? (i := 70) rfl)
theorem k_551 : (Cond.methodLink "FlatBoxes" (123 : Nat) ({ cls := "FlatBoxes$Packing", name := "isHeldBy", desc := "(LFlatBoxes$Cartons;ILFlatBoxes$Parts;I)Z" } : MethodName)) ∈ tables_1 := gT3 (List.mem_of_getElem? (i := 71) rfl)
theorem k_552 : (Cond.methodLink "FlatBoxesLaw" (95 : Nat) ({ cls := "FlatBoxesLaw", name := "at", desc := "(LFlatBoxes;II[J)I" } : MethodName)) ∈ tables_1 := gT3 (List.mem_of_getElem? (i := 72) rfl)
theorem k_553 : (Cond.static ({ cls := "FlatBoxesLaw", name := "at", desc := "(LFlatBoxes;II[J)I" } : MethodName)) ∈ tables_1 := gT3 (List.mem_of_getElem? (i := 73) rfl)
theorem k_554 : (Cond.codeWith ({ cls := "FlatBoxesLaw", name := "at", desc := "(LFlatBoxes;II[J)I" } : MethodName) method_7_code (5 : Nat) (Option.some FieldType.int) [((0 : Nat), (10 : Nat), (13 : Nat), (15 : Nat)), ((0 : Nat), (10 : Nat), (17 : Nat), (24 : Nat))]) ∈ tables_1 := gT3 (List.mem_of_getElem? (i := 74) rfl)
theorem k_555 : (Cond.methodLink "FlatBoxesLaw" (30 : Nat) ({ cls := "FlatBoxes", name := "at", desc := "(II)I" } : MethodName)) ∈ tables_1 := gT3 (List.mem_of_getElem? (i := 75) rfl)
theorem k_556 : (Cond.instanceMethod ({ cls := "FlatBoxes", name := "at", desc := "(II)I" } : MethodName)) ∈ tables_1 := gT3 (List.mem_of_getElem? (i := 76) rfl)
theorem k_557 : (Cond.selects "FlatBoxes" ({ cls := "FlatBoxes", name := "at", desc := "(II)I" } : MethodName) ({ cls := "FlatBoxes", name := "at", desc := "(II)I" } : MethodName)) ∈ tables_1 := gT3 (List.mem_of_getElem? (i := 77) rfl)
theorem k_558 : (Cond.code ({ cls := "FlatBoxes", name := "at", desc := "(II)I" } : MethodName) prog_1_method_7_code (3 : Nat) (Option.some FieldType.int)) ∈ tables_1 := gT3 (List.mem_of_getElem? (i := 78) rfl)
theorem k_559 : (Cond.methodLink "FlatBoxes" (142 : Nat) ({ cls := "FlatBoxes", name := "needShares", desc := "()V" } : MethodName)) ∈ tables_1 := gT3 (List.mem_of_getElem? (i := 79) rfl)
theorem k_560 : (Cond.privateMethod ({ cls := "FlatBoxes", name := "needShares", desc := "()V" } : MethodName)) ∈ tables_1 := gT3 (List.mem_of_getElem? (i := 80) rfl)
theorem k_561 : (Cond.instanceMethod ({ cls := "FlatBoxes", name := "needShares", desc := "()V" } : MethodName)) ∈ tables_1 := gT3 (List.mem_of_getElem? (i := 81) rfl)
theorem k_562 : (Cond.code ({ cls := "FlatBoxes", name := "needShares", desc := "()V" } : MethodName) prog_1_method_16_code (1 : Nat) (Option.none : Option ClassFile.FieldType)) ∈ tables_1 := gT3 (List.mem_of_getElem? (i := 82) rfl)
theorem k_563 : (Cond.stringRef "FlatBoxes" (207 : Nat) "no shares since something was told") ∈ tables_1 := gT3 (List.mem_of_getElem? (i := 83) rfl)
theorem k_564 : (Cond.stringRef "FlatBoxes" (145 : Nat) "no such part or what") ∈ tables_1 := gT3 (List.mem_of_getElem? (i := 84) rfl)
theorem k_565 : (Cond.methodLink "FlatBoxesLaw" (98 : Nat) ({ cls := "FlatBoxesLaw", name := "box", desc := "(LFlatBoxes;II[J)I" } : MethodName)) ∈ tables_1 := gT3 (List.mem_of_getElem? (i := 85) rfl)
theorem k_566 : (Cond.static ({ cls := "FlatBoxesLaw", name := "box", desc := "(LFlatBoxes;II[J)I" } : MethodName)) ∈ tables_1 := gT3 (List.mem_of_getElem? (i := 86) rfl)
theorem k_567 : (Cond.codeWith ({ cls := "FlatBoxesLaw", name := "box", desc := "(LFlatBoxes;II[J)I" } : MethodName) method_8_code (5 : Nat) (Option.some FieldType.int) [((0 : Nat), (10 : Nat), (13 : Nat), (15 : Nat)), ((0 : Nat), (10 : Nat), (17 : Nat), (24 : Nat))]) ∈ tables_1 := gT3 (List.mem_of_getElem? (i := 87) rfl)
theorem k_568 : (Cond.methodLink "FlatBoxesLaw" (34 : Nat) ({ cls := "FlatBoxes", name := "box", desc := "(II)I" } : MethodName)) ∈ tables_1 := gT3 (List.mem_of_getElem? (i := 88) rfl)
theorem k_569 : (Cond.instanceMethod ({ cls := "FlatBoxes", name := "box", desc := "(II)I" } : MethodName)) ∈ tables_1 := gT3 (List.mem_of_getElem? (i := 89) rfl)
theorem k_570 : (Cond.selects "FlatBoxes" ({ cls := "FlatBoxes", name := "box", desc := "(II)I" } : MethodName) ({ cls := "FlatBoxes", name := "box", desc := "(II)I" } : MethodName)) ∈ tables_1 := gT3 (List.mem_of_getElem? (i := 90) rfl)
theorem k_571 : (Cond.code ({ cls := "FlatBoxes", name := "box", desc := "(II)I" } : MethodName) prog_1_method_8_code (3 : Nat) (Option.some FieldType.int)) ∈ tables_1 := gT3 (List.mem_of_getElem? (i := 91) rfl)
theorem k_572 : (Cond.stringRef "FlatBoxes" (151 : Nat) "no such box or what") ∈ tables_1 := gT3 (List.mem_of_getElem? (i := 92) rfl)
theorem k_573 : (Cond.methodLink "FlatBoxesLaw" (101 : Nat) ({ cls := "FlatBoxesLaw", name := "cost", desc := "(LFlatBoxes;[J)I" } : MethodName)) ∈ tables_1 := gT3 (List.mem_of_getElem? (i := 93) rfl)
theorem k_574 : (Cond.static ({ cls := "FlatBoxesLaw", name := "cost", desc := "(LFlatBoxes;[J)I" } : MethodName)) ∈ tables_1 := gT3 (List.mem_of_getElem? (i := 94) rfl)
theorem k_575 : (Cond.codeWith ({ cls := "FlatBoxesLaw", name := "cost", desc := "(LFlatBoxes;[J)I" } : MethodName) method_9_code (3 : Nat) (Option.some FieldType.int) [((0 : Nat), (8 : Nat), (11 : Nat), (15 : Nat))]) ∈ tables_1 := gT3 (List.mem_of_getElem? (i := 95) rfl)
theorem k_576 : (Cond.methodLink "FlatBoxesLaw" (37 : Nat) ({ cls := "FlatBoxes", name := "cost", desc := "()I" } : MethodName)) ∈ tables_1 := gT3 (List.mem_of_getElem? (i := 96) rfl)
theorem k_577 : (Cond.instanceMethod ({ cls := "FlatBoxes", name := "cost", desc := "()I" } : MethodName)) ∈ tables_1 := gT3 (List.mem_of_getElem? (i := 97) rfl)
theorem k_578 : (Cond.selects "FlatBoxes" ({ cls := "FlatBoxes", name := "cost", desc := "()I" } : MethodName) ({ cls := "FlatBoxes", name := "cost", desc := "()I" } : MethodName)) ∈ tables_1 := gT3 (List.mem_of_getElem? (i := 98) rfl)
theorem k_579 : (Cond.code ({ cls := "FlatBoxes", name := "cost", desc := "()I" } : MethodName) prog_1_method_9_code (1 : Nat) (Option.some FieldType.int)) ∈ tables_1 := gT3 (List.mem_of_getElem? (i := 99) rfl)
theorem k_580 : (Cond.methodLink "FlatBoxesLaw" (105 : Nat) ({ cls := "FlatBoxesLaw", name := "manual", desc := "(LFlatBoxes;I[J)I" } : MethodName)) ∈ tables_1 := gT3 (List.mem_of_getElem? (i := 100) rfl)
theorem k_581 : (Cond.static ({ cls := "FlatBoxesLaw", name := "manual", desc := "(LFlatBoxes;I[J)I" } : MethodName)) ∈ tables_1 := gT3 (List.mem_of_getElem? (i := 101) rfl)
theorem k_582 : (Cond.codeWith ({ cls := "FlatBoxesLaw", name := "manual", desc := "(LFlatBoxes;I[J)I" } : MethodName) method_10_code (4 : Nat) (Option.some FieldType.int) [((0 : Nat), (9 : Nat), (12 : Nat), (24 : Nat))]) ∈ tables_1 := gT3 (List.mem_of_getElem? (i := 102) rfl)
theorem k_583 : (Cond.methodLink "FlatBoxesLaw" (41 : Nat) ({ cls := "FlatBoxes", name := "manual", desc := "(I)I" } : MethodName)) ∈ tables_1 := gT3 (List.mem_of_getElem? (i := 103) rfl)
theorem k_584 : (Cond.instanceMethod ({ cls := "FlatBoxes", name := "manual", desc := "(I)I" } : MethodName)) ∈ tables_1 := gT3 (List.mem_of_getElem? (i := 104) rfl)
theorem k_585 : (Cond.selects "FlatBoxes" ({ cls := "FlatBoxes", name := "manual", desc := "(I)I" } : MethodName) ({ cls := "FlatBoxes", name := "manual", desc := "(I)I" } : MethodName)) ∈ tables_1 := gT3 (List.mem_of_getElem? (i := 105) rfl)
theorem k_586 : (Cond.code ({ cls := "FlatBoxes", name := "manual", desc := "(I)I" } : MethodName) prog_1_method_10_code (2 : Nat) (Option.some FieldType.int)) ∈ tables_1 := gT3 (List.mem_of_getElem? (i := 106) rfl)
theorem k_587 : (Cond.stringRef "FlatBoxes" (159 : Nat) "no such place") ∈ tables_1 := gT3 (List.mem_of_getElem? (i := 107) rfl)
theorem k_588 : (Cond.methodLink "FlatBoxesLaw" (109 : Nat) ({ cls := "FlatBoxesLaw", name := "bag", desc := "(LFlatBoxes;[J)I" } : MethodName)) ∈ tables_1 := gT3 (List.mem_of_getElem? (i := 108) rfl)
theorem k_589 : (Cond.static ({ cls := "FlatBoxesLaw", name := "bag", desc := "(LFlatBoxes;[J)I" } : MethodName)) ∈ tables_1 := gT3 (List.mem_of_getElem? (i := 109) rfl)
theorem k_590 : (Cond.codeWith ({ cls := "FlatBoxesLaw", name := "bag", desc := "(LFlatBoxes;[J)I" } : MethodName) method_11_code (3 : Nat) (Option.some FieldType.int) [((0 : Nat), (8 : Nat), (11 : Nat), (15 : Nat))]) ∈ tables_1 := gT3 (List.mem_of_getElem? (i := 110) rfl)
theorem k_591 : (Cond.methodLink "FlatBoxesLaw" (45 : Nat) ({ cls := "FlatBoxes", name := "bag", desc := "()I" } : MethodName)) ∈ tables_1 := gT3 (List.mem_of_getElem? (i := 111) rfl)
theorem k_592 : (Cond.instanceMethod ({ cls := "FlatBoxes", name := "bag", desc := "()I" } : MethodName)) ∈ tables_1 := gT3 (List.mem_of_getElem? (i := 112) rfl)
theorem k_593 : (Cond.selects "FlatBoxes" ({ cls := "FlatBoxes", name := "bag", desc := "()I" } : MethodName) ({ cls := "FlatBoxes", name := "bag", desc := "()I" } : MethodName)) ∈ tables_1 := gT3 (List.mem_of_getElem? (i := 113) rfl)
theorem k_594 : (Cond.code ({ cls := "FlatBoxes", name := "bag", desc := "()I" } : MethodName) prog_1_method_11_code (1 : Nat) (Option.some FieldType.int)) ∈ tables_1 := gT3 (List.mem_of_getElem? (i := 114) rfl)
theorem k_595 : (Cond.stringRef "FlatBoxes" (166 : Nat) "there are 4 bags") ∈ tables_1 := gT3 (List.mem_of_getElem? (i := 115) rfl)
theorem k_596 : (Cond.methodLink "FlatBoxes" (168 : Nat) ({ cls := "FlatBoxes$Bags", name := "add", desc := "()I" } : MethodName)) ∈ tables_1 := gT3 (List.mem_of_getElem? (i := 116) rfl)
theorem k_597 : (Cond.instanceMethod ({ cls := "FlatBoxes$Bags", name := "add", desc := "()I" } : MethodName)) ∈ tables_1 := gT3 (List.mem_of_getElem? (i := 117) rfl)
theorem k_598 : (Cond.selects "FlatBoxes$Bags" ({ cls := "FlatBoxes$Bags", name := "add", desc := "()I" } : MethodName) ({ cls := "FlatBoxes$Bags", name := "add", desc := "()I" } : MethodName)) ∈ tables_1 := gT3 (List.mem_of_getElem? (i := 118) rfl)
theorem k_599 : (Cond.code ({ cls := "FlatBoxes$Bags", name := "add", desc := "()I" } : MethodName) prog_2_method_2_code (2 : Nat) (Option.some FieldType.int)) ∈ tables_1 := gT3 (List.mem_of_getElem? (i := 119) rfl)
theorem k_600 : (Cond.methodLink "FlatBoxesLaw" (112 : Nat) ({ cls := "FlatBoxesLaw", name := "into", desc := "(LFlatBoxes;IIII[J)I" } : MethodName)) ∈ tables_1 := gT3 (List.mem_of_getElem? (i := 120) rfl)
theorem k_601 : (Cond.static ({ cls := "FlatBoxesLaw", name := "into", desc := "(LFlatBoxes;IIII[J)I" } : MethodName)) ∈ tables_1 := gT3 (List.mem_of_getElem? (i := 121) rfl)
theorem k_602 : (Cond.codeWith ({ cls := "FlatBoxesLaw", name := "into", desc := "(LFlatBoxes;IIII[J)I" } : MethodName) method_12_code (7 : Nat) (Option.some FieldType.int) [((0 : Nat), (14 : Nat), (17 : Nat), (24 : Nat)), ((0 : Nat), (14 : Nat), (21 : Nat), (13 : Nat)), ((0 : Nat), (14 : Nat), (25 : Nat), (15 : Nat))]) ∈ tables_1 := gT3 (List.mem_of_getElem? (i := 122) rfl)
theorem k_603 : (Cond.methodLink "FlatBoxesLaw" (48 : Nat) ({ cls := "FlatBoxes", name := "into", desc := "(IIII)I" } : MethodName)) ∈ tables_1 := gT3 (List.mem_of_getElem? (i := 123) rfl)
theorem k_604 : (Cond.instanceMethod ({ cls := "FlatBoxes", name := "into", desc := "(IIII)I" } : MethodName)) ∈ tables_1 := gT3 (List.mem_of_getElem? (i := 124) rfl)
theorem k_605 : (Cond.selects "FlatBoxes" ({ cls := "FlatBoxes", name := "into", desc := "(IIII)I" } : MethodName) ({ cls := "FlatBoxes", name := "into", desc := "(IIII)I" } : MethodName)) ∈ tables_1 := gT3 (List.mem_of_getElem? (i := 125) rfl)
theorem k_606 : (Cond.code ({ cls := "FlatBoxes", name := "into", desc := "(IIII)I" } : MethodName) prog_1_method_12_code (5 : Nat) (Option.some FieldType.int)) ∈ tables_1 := gT3 (List.mem_of_getElem? (i := 126) rfl)
theorem k_607 : (Cond.stringRef "FlatBoxes" (170 : Nat) "no such bag") ∈ tables_1 := gT3 (List.mem_of_getElem? (i := 127) rfl)
theorem k_608 : (Cond.stringRef "FlatBoxes" (172 : Nat) "many is not 0 .. 1000, or each is not 1 .. 1000") ∈ tables_1 := gT3 (List.mem_of_getElem? (i := 128) rfl)
theorem k_609 : (Cond.stringRef "FlatBoxes" (174 : Nat) "spread is not 0 .. each") ∈ tables_1 := gT3 (List.mem_of_getElem? (i := 129) rfl)
theorem k_610 : (Cond.stringRef "FlatBoxes" (179 : Nat) "there are 6 kinds") ∈ tables_1 := gT3 (List.mem_of_getElem? (i := 130) rfl)
theorem k_611 : (Cond.methodLink "FlatBoxes" (181 : Nat) ({ cls := "FlatBoxes$Bags", name := "addKind", desc := "(IIII)I" } : MethodName)) ∈ tables_1 := gT3 (List.mem_of_getElem? (i := 131) rfl)
theorem k_612 : (Cond.instanceMethod ({ cls := "FlatBoxes$Bags", name := "addKind", desc := "(IIII)I" } : MethodName)) ∈ tables_1 := gT3 (List.mem_of_getElem? (i := 132) rfl)
theorem k_613 : (Cond.selects "FlatBoxes$Bags" ({ cls := "FlatBoxes$Bags", name := "addKind", desc := "(IIII)I" } : MethodName) ({ cls := "FlatBoxes$Bags", name := "addKind", desc := "(IIII)I" } : MethodName)) ∈ tables_1 := gT3 (List.mem_of_getElem? (i := 133) rfl)
theorem k_614 : (Cond.code ({ cls := "FlatBoxes$Bags", name := "addKind", desc := "(IIII)I" } : MethodName) prog_2_method_3_code (6 : Nat) (Option.some FieldType.int)) ∈ tables_1 := gT3 (List.mem_of_getElem? (i := 134) rfl)
theorem k_615 : (Cond.methodLink "FlatBoxesLaw" (116 : Nat) ({ cls := "FlatBoxesLaw", name := "counted", desc := "(LFlatBoxes;II[J)I" } : MethodName)) ∈ tables_1 := gT3 (List.mem_of_getElem? (i := 135) rfl)
theorem k_616 : (Cond.static ({ cls := "FlatBoxesLaw", name := "counted", desc := "(LFlatBoxes;II[J)I" } : MethodName)) ∈ tables_1 := gT3 (List.mem_of_getElem? (i := 136) rfl)
theorem k_617 : (Cond.codeWith ({ cls := "FlatBoxesLaw", name := "counted", desc := "(LFlatBoxes;II[J)I" } : MethodName) method_13_code (5 : Nat) (Option.some FieldType.int) [((0 : Nat), (10 : Nat), (13 : Nat), (24 : Nat)), ((0 : Nat), (10 : Nat), (17 : Nat), (13 : Nat))]) ∈ tables_1 := gT3 (List.mem_of_getElem? (i := 137) rfl)
theorem k_618 : (Cond.methodLink "FlatBoxesLaw" (52 : Nat) ({ cls := "FlatBoxes", name := "counted", desc := "(II)I" } : MethodName)) ∈ tables_1 := gT3 (List.mem_of_getElem? (i := 138) rfl)
theorem k_619 : (Cond.instanceMethod ({ cls := "FlatBoxes", name := "counted", desc := "(II)I" } : MethodName)) ∈ tables_1 := gT3 (List.mem_of_getElem? (i := 139) rfl)
theorem k_620 : (Cond.selects "FlatBoxes" ({ cls := "FlatBoxes", name := "counted", desc := "(II)I" } : MethodName) ({ cls := "FlatBoxes", name := "counted", desc := "(II)I" } : MethodName)) ∈ tables_1 := gT3 (List.mem_of_getElem? (i := 140) rfl)
theorem k_621 : (Cond.code ({ cls := "FlatBoxes", name := "counted", desc := "(II)I" } : MethodName) prog_1_method_13_code (3 : Nat) (Option.some FieldType.int)) ∈ tables_1 := gT3 (List.mem_of_getElem? (i := 141) rfl)
theorem k_622 : (Cond.stringRef "FlatBoxes" (185 : Nat) "grams are below 0") ∈ tables_1 := gT3 (List.mem_of_getElem? (i := 142) rfl)
theorem k_623 : (Cond.methodLink "FlatBoxes" (187 : Nat) ({ cls := "FlatBoxes$Bags", name := "judge", desc := "(II)I" } : MethodName)) ∈ tables_1 := gT3 (List.mem_of_getElem? (i := 143) rfl)
theorem k_624 : (Cond.instanceMethod ({ cls := "FlatBoxes$Bags", name := "judge", desc := "(II)I" } : MethodName)) ∈ tables_1 := gT3 (List.mem_of_getElem? (i := 144) rfl)
theorem k_625 : (Cond.selects "FlatBoxes$Bags" ({ cls := "FlatBoxes$Bags", name := "judge", desc := "(II)I" } : MethodName) ({ cls := "FlatBoxes$Bags", name := "judge", desc := "(II)I" } : MethodName)) ∈ tables_1 := gT3 (List.mem_of_getElem? (i := 145) rfl)
theorem k_626 : (Cond.code ({ cls := "FlatBoxes$Bags", name := "judge", desc := "(II)I" } : MethodName) prog_2_method_4_code (4 : Nat) (Option.some FieldType.int)) ∈ tables_1 := gT3 (List.mem_of_getElem? (i := 146) rfl)
theorem k_627 : (Cond.methodLink "FlatBoxes$Bags" (36 : Nat) ({ cls := "FlatBoxes$Bags", name := "isNear", desc := "(III)Z" } : MethodName)) ∈ tables_1 := gT3 (List.mem_of_getElem? (i := 147) rfl)
theorem k_628 : (Cond.static ({ cls := "FlatBoxes$Bags", name := "isNear", desc := "(III)Z" } : MethodName)) ∈ tables_1 := gT3 (List.mem_of_getElem? (i := 148) rfl)
theorem k_629 : (Cond.code ({ cls := "FlatBoxes$Bags", name := "isNear", desc := "(III)Z" } : MethodName) prog_2_method_7_code (3 : Nat) (Option.some FieldType.boolean)) ∈ tables_1 := gT3 (List.mem_of_getElem? (i := 149) rfl)
theorem k_630 : (Cond.methodLink "FlatBoxes$Bags" (40 : Nat) ({ cls := "FlatBoxes$Bags", name := "couldHaveOneMore", desc := "(III)Z" } : MethodName)) ∈ tables_1 := gT3 (List.mem_of_getElem? (i := 150) rfl)
theorem k_631 : (Cond.privateMethod ({ cls := "FlatBoxes$Bags", name := "couldHaveOneMore", desc := "(III)Z" } : MethodName)) ∈ tables_1 := gT3 (List.mem_of_getElem? (i := 151) rfl)
theorem k_632 : (Cond.instanceMethod ({ cls := "FlatBoxes$Bags", name := "couldHaveOneMore", desc := "(III)Z" } : MethodName)) ∈ tables_1 := gT3 (List.mem_of_getElem? (i := 152) rfl)
theorem k_633 : (Cond.code ({ cls := "FlatBoxes$Bags", name := "couldHaveOneMore", desc := "(III)Z" } : MethodName) prog_2_method_5_code (4 : Nat) (Option.some FieldType.boolean)) ∈ tables_1 := gT3 (List.mem_of_getElem? (i := 153) rfl)
theorem k_634 : (Cond.methodLink "FlatBoxes$Bags" (43 : Nat) ({ cls := "FlatBoxes$Bags", name := "couldHaveOneLess", desc := "(III)Z" } : MethodName)) ∈ tables_1 := gT3 (List.mem_of_getElem? (i := 154) rfl)
theorem k_635 : (Cond.privateMethod ({ cls := "FlatBoxes$Bags", name := "couldHaveOneLess", desc := "(III)Z" } : MethodName)) ∈ tables_1 := gT3 (List.mem_of_getElem? (i := 155) rfl)
theorem k_636 : (Cond.instanceMethod ({ cls := "FlatBoxes$Bags", name := "couldHaveOneLess", desc := "(III)Z" } : MethodName)) ∈ tables_1 := gT3 (List.mem_of_getElem? (i := 156) rfl)
theorem k_637 : (Cond.code ({ cls := "FlatBoxes$Bags", name := "couldHaveOneLess", desc := "(III)Z" } : MethodName) prog_2_method_6_code (4 : Nat) (Option.some FieldType.boolean)) ∈ tables_1 := gT3 (List.mem_of_getElem? (i := 157) rfl)
theorem k_638 : (Cond.methodLink "FlatBoxesLaw" (119 : Nat) ({ cls := "FlatBoxesLaw", name := "raised", desc := "(LFlatBoxes;II[J)I" } : MethodName)) ∈ tables_1 := gT3 (List.mem_of_getElem? (i := 158) rfl)
theorem k_639 : (Cond.static ({ cls := "FlatBoxesLaw", name := "raised", desc := "(LFlatBoxes;II[J)I" } : MethodName)) ∈ tables_1 := gT3 (List.mem_of_getElem? (i := 159) rfl)
theorem k_640 : (Cond.codeWith ({ cls := "FlatBoxesLaw", name := "raised", desc := "(LFlatBoxes;II[J)I" } : MethodName) method_14_code (5 : Nat) (Option.some FieldType.int) [((0 : Nat), (17 : Nat), (20 : Nat), (15 : Nat)), ((0 : Nat), (17 : Nat), (24 : Nat), (24 : Nat)), ((0 : Nat), (17 : Nat), (28 : Nat), (13 : Nat))]) ∈ tables_1 := gT3 (List.mem_of_getElem? (i := 160) rfl)
theorem k_641 : (Cond.methodLink "FlatBoxesLaw" (55 : Nat) ({ cls := "FlatBoxes", name := "raised", desc := "(II)Z" } : MethodName)) ∈ tables_1 := gT3 (List.mem_of_getElem? (i := 161) rfl)
theorem k_642 : (Cond.instanceMethod ({ cls := "FlatBoxes", name := "raised", desc := "(II)Z" } : MethodName)) ∈ tables_1 := gT3 (List.mem_of_getElem? (i := 162) rfl)
theorem k_643 : (Cond.selects "FlatBoxes" ({ cls := "FlatBoxes", name := "raised", desc := "(II)Z" } : MethodName) ({ cls := "FlatBoxes", name := "raised", desc := "(II)Z" } : MethodName)) ∈ tables_1 := gT3 (List.mem_of_getElem? (i := 163) rfl)
theorem k_644 : (Cond.code ({ cls := "FlatBoxes", name := "raised", desc := "(II)Z" } : MethodName) prog_1_method_14_code (6 : Nat) (Option.some FieldType.boolean)) ∈ tables_1 := gT3 (List.mem_of_getElem? (i := 164) rfl)
theorem k_645 : (Cond.stringRef "FlatBoxes" (190 : Nat) "no such box") ∈ tables_1 := gT3 (List.mem_of_getElem? (i := 165) rfl)
theorem k_646 : (Cond.stringRef "FlatBoxes" (192 : Nat) "room is not 1 .. 1000") ∈ tables_1 := gT3 (List.mem_of_getElem? (i := 166) rfl)
theorem k_647 : (Cond.methodLink "FlatBoxesLaw" (122 : Nat) ({ cls := "FlatBoxesLaw", name := "pallets", desc := "(LFlatBoxes;I[J)I" } : MethodName)) ∈ tables_1 := gT3 (List.mem_of_getElem? (i := 167) rfl)
theorem k_648 : (Cond.static ({ cls := "FlatBoxesLaw", name := "pallets", desc := "(LFlatBoxes;I[J)I" } : MethodName)) ∈ tables_1 := gT3 (List.mem_of_getElem? (i := 168) rfl)
theorem k_649 : (Cond.codeWith ({ cls := "FlatBoxesLaw", name := "pallets", desc := "(LFlatBoxes;I[J)I" } : MethodName) method_15_code (4 : Nat) (Option.some FieldType.int) [((0 : Nat), (9 : Nat), (12 : Nat), (15 : Nat)), ((0 : Nat), (9 : Nat), (15 : Nat), (13 : Nat))]) ∈ tables_1 := gT3 (List.mem_of_getElem? (i := 169) rfl)
theorem k_650 : (Cond.methodLink "FlatBoxesLaw" (58 : Nat) ({ cls := "FlatBoxes", name := "pallets", desc := "(I)I" } : MethodName)) ∈ tables_1 := gT3 (List.mem_of_getElem? (i := 170) rfl)
theorem k_651 : (Cond.instanceMethod ({ cls := "FlatBoxes", name := "pallets", desc := "(I)I" } : MethodName)) ∈ tables_1 := gT3 (List.mem_of_getElem? (i := 171) rfl)
theorem k_652 : (Cond.selects "FlatBoxes" ({ cls := "FlatBoxes", name := "pallets", desc := "(I)I" } : MethodName) ({ cls := "FlatBoxes", name := "pallets", desc := "(I)I" } : MethodName)) ∈ tables_1 := gT3 (List.mem_of_getElem? (i := 172) rfl)
theorem k_653 : (Cond.code ({ cls := "FlatBoxes", name := "pallets", desc := "(I)I" } : MethodName) prog_1_method_15_code (2 : Nat) (Option.some FieldType.int)) ∈ tables_1 := gT3 (List.mem_of_getElem? (i := 173) rfl)
theorem k_654 : (Cond.constant "FlatBoxes" (200 : Nat) (1000000 : Int32)) ∈ tables_1 := gT3 (List.mem_of_getElem? (i := 174) rfl)
theorem k_655 : (Cond.stringRef "FlatBoxes" (201 : Nat) "limit is not 1 .. 1000000") ∈ tables_1 := gT3 (List.mem_of_getElem? (i := 175) rfl)
theorem k_656 : (Cond.methodLink "FlatBoxes" (203 : Nat) ({ cls := "FlatBoxes$Shares", name := "stackOnPallets", desc := "(I)I" } : MethodName)) ∈ tables_1 := gT3 (List.mem_of_getElem? (i := 176) rfl)
theorem k_657 : (Cond.instanceMethod ({ cls := "FlatBoxes$Shares", name := "stackOnPallets", desc := "(I)I" } : MethodName)) ∈ tables_1 := gT3 (List.mem_of_getElem? (i := 177) rfl)
theorem k_658 : (Cond.selects "FlatBoxes$Shares" ({ cls := "FlatBoxes$Shares", name := "stackOnPallets", desc := "(I)I" } : MethodName) ({ cls := "FlatBoxes$Shares", name := "stackOnPallets", desc := "(I)I" } : MethodName)) ∈ tables_1 := gT3 (List.mem_of_getElem? (i := 178) rfl)
theorem k_659 : (Cond.code ({ cls := "FlatBoxes$Shares", name := "stackOnPallets", desc := "(I)I" } : MethodName) prog_7_method_6_code (6 : Nat) (Option.some FieldType.int)) ∈ tables_1 := gT3 (List.mem_of_getElem? (i := 179) rfl)
theorem k_660 : (Cond.classLink "FlatBoxesLaw" (70 : Nat) "FlatBoxesModel") ∈ tables_1 := gT3 (List.mem_of_getElem? (i := 180) rfl)
theorem k_661 : (Cond.instantiable "FlatBoxesModel" (34 : Nat)) ∈ tables_1 := gT3 (List.mem_of_getElem? (i := 181) rfl)
theorem k_662 : (Cond.methodLink "FlatBoxesLaw" (72 : Nat) ({ cls := "FlatBoxesModel", name := "<init>", desc := "(I)V" } : MethodName)) ∈ tables_1 := gT3 (List.mem_of_getElem? (i := 182) rfl)
theorem k_663 : (Cond.instanceMethod ({ cls := "FlatBoxesModel", name := "<init>", desc := "(I)V" } : MethodName)) ∈ tables_1 := gT3 (List.mem_of_getElem? (i := 183) rfl)
theorem k_664 : (Cond.code ({ cls := "FlatBoxesModel", name := "<init>", desc := "(I)V" } : MethodName) prog_9_method_1_code (2 : Nat) (Option.none : Option ClassFile.FieldType)) ∈ tables_1 := gT3 (List.mem_of_getElem? (i := 184) rfl)
theorem k_665 : (Cond.methodLink "FlatBoxesModel" (1 : Nat) ({ cls := "java/lang/Object", name := "<init>", desc := "()V" } : MethodName)) ∈ tables_1 := gT3 (List.mem_of_getElem? (i := 185) rfl)
theorem k_666 : (Cond.fieldLink "FlatBoxesModel" (93 : Nat) "FlatBoxesModel" "code" "I") ∈ tables_1 := gT3 (List.mem_of_getElem? (i := 186) rfl)
theorem k_667 : (Cond.fieldLink "FlatBoxesModel" (89 : Nat) "FlatBoxesModel" "gap" "I") ∈ tables_1 := gT3 (List.mem_of_getElem? (i := 187) rfl)
theorem k_668 : (Cond.fieldLink "FlatBoxesModel" (105 : Nat) "FlatBoxesModel" "cartons" "I") ∈ tables_1 := gT3 (List.mem_of_getElem? (i := 188) rfl)
theorem k_669 : (Cond.fieldLink "FlatBoxesModel" (7 : Nat) "FlatBoxesModel" "widths" "[I") ∈ tables_1 := gT3 (List.mem_of_getElem? (i := 189) rfl)
theorem k_670 : (Cond.fieldLink "FlatBoxesModel" (13 : Nat) "FlatBoxesModel" "depths" "[I") ∈ tables_1 := gT3 (List.mem_of_getElem? (i := 190) rfl)
theorem k_671 : (Cond.fieldLink "FlatBoxesModel" (16 : Nat) "FlatBoxesModel" "heights" "[I") ∈ tables_1 := gT3 (List.mem_of_getElem? (i := 191) rfl)
theorem k_672 : (Cond.fieldLink "FlatBoxesModel" (19 : Nat) "FlatBoxesModel" "cents" "[I") ∈ tables_1 := gT3 (List.mem_of_getElem? (i := 192) rfl)
theorem k_673 : (Cond.fieldLink "FlatBoxesModel" (22 : Nat) "FlatBoxesModel" "bears" "[I") ∈ tables_1 := gT3 (List.mem_of_getElem? (i := 193) rfl)
theorem k_674 : (Cond.fieldLink "FlatBoxesModel" (113 : Nat) "FlatBoxesModel" "parts" "I") ∈ tables_1 := gT3 (List.mem_of_getElem? (i := 194) rfl)
theorem k_675 : (Cond.fieldLink "FlatBoxesModel" (25 : Nat) "FlatBoxesModel" "wides" "[I") ∈ tables_1 := gT3 (List.mem_of_getElem? (i := 195) rfl)
theorem k_676 : (Cond.fieldLink "FlatBoxesModel" (28 : Nat) "FlatBoxesModel" "deeps" "[I") ∈ tables_1 := gT3 (List.mem_of_getElem? (i := 196) rfl)
theorem k_677 : (Cond.fieldLink "FlatBoxesModel" (31 : Nat) "FlatBoxesModel" "thicks" "[I") ∈ tables_1 := gT3 (List.mem_of_getElem? (i := 197) rfl)
theorem k_678 : (Cond.fieldLink "FlatBoxesModel" (34 : Nat) "FlatBoxesModel" "grams" "[I") ∈ tables_1 := gT3 (List.mem_of_getElem? (i := 198) rfl)
theorem k_679 : (Cond.fieldLink "FlatBoxesModel" (37 : Nat) "FlatBoxesModel" "steps" "[I") ∈ tables_1 := gT3 (List.mem_of_getElem? (i := 199) rfl)
theorem k_680 : (Cond.fieldLink "FlatBoxesModel" (40 : Nat) "FlatBoxesModel" "fragiles" "[Z") ∈ tables_1 := gT3 (List.mem_of_getElem? (i := 200) rfl)
theorem k_681 : (Cond.fieldLink "FlatBoxesModel" (44 : Nat) "FlatBoxesModel" "layerOf" "[I") ∈ tables_1 := gT3 (List.mem_of_getElem? (i := 201) rfl)
theorem k_682 : (Cond.fieldLink "FlatBoxesModel" (47 : Nat) "FlatBoxesModel" "begins" "[I") ∈ tables_1 := gT3 (List.mem_of_getElem? (i := 202) rfl)
theorem k_683 : (Cond.fieldLink "FlatBoxesModel" (116 : Nat) "FlatBoxesModel" "layers" "I") ∈ tables_1 := gT3 (List.mem_of_getElem? (i := 203) rfl)
theorem k_684 : (Cond.fieldLink "FlatBoxesModel" (50 : Nat) "FlatBoxesModel" "used" "[I") ∈ tables_1 := gT3 (List.mem_of_getElem? (i := 204) rfl)
theorem k_685 : (Cond.fieldLink "FlatBoxesModel" (53 : Nat) "FlatBoxesModel" "highs" "[I") ∈ tables_1 := gT3 (List.mem_of_getElem? (i := 205) rfl)
theorem k_686 : (Cond.fieldLink "FlatBoxesModel" (56 : Nat) "FlatBoxesModel" "weights" "[I") ∈ tables_1 := gT3 (List.mem_of_getElem? (i := 206) rfl)
theorem k_687 : (Cond.fieldLink "FlatBoxesModel" (59 : Nat) "FlatBoxesModel" "firsts" "[I") ∈ tables_1 := gT3 (List.mem_of_getElem? (i := 207) rfl)
theorem k_688 : (Cond.fieldLink "FlatBoxesModel" (62 : Nat) "FlatBoxesModel" "breaks" "[Z") ∈ tables_1 := gT3 (List.mem_of_getElem? (i := 208) rfl)
theorem k_689 : (Cond.fieldLink "FlatBoxesModel" (65 : Nat) "FlatBoxesModel" "boxOf" "[I") ∈ tables_1 := gT3 (List.mem_of_getElem? (i := 209) rfl)
theorem k_690 : (Cond.fieldLink "FlatBoxesModel" (108 : Nat) "FlatBoxesModel" "hasShares" "Z") ∈ tables_1 := gT3 (List.mem_of_getElem? (i := 210) rfl)
theorem k_691 : (Cond.fieldLink "FlatBoxesModel" (141 : Nat) "FlatBoxesModel" "boxes" "I") ∈ tables_1 := gT3 (List.mem_of_getElem? (i := 211) rfl)
theorem k_692 : (Cond.fieldLink "FlatBoxesModel" (68 : Nat) "FlatBoxesModel" "shares" "[I") ∈ tables_1 := gT3 (List.mem_of_getElem? (i := 212) rfl)
theorem k_693 : (Cond.fieldLink "FlatBoxesModel" (71 : Nat) "FlatBoxesModel" "trial" "[I") ∈ tables_1 := gT3 (List.mem_of_getElem? (i := 213) rfl)
theorem k_694 : (Cond.fieldLink "FlatBoxesModel" (74 : Nat) "FlatBoxesModel" "sets" "[I") ∈ tables_1 := gT3 (List.mem_of_getElem? (i := 214) rfl)
theorem k_695 : (Cond.fieldLink "FlatBoxesModel" (164 : Nat) "FlatBoxesModel" "bags" "I") ∈ tables_1 := gT3 (List.mem_of_getElem? (i := 215) rfl)
theorem k_696 : (Cond.fieldLink "FlatBoxesModel" (77 : Nat) "FlatBoxesModel" "kindCounts" "[I") ∈ tables_1 := gT3 (List.mem_of_getElem? (i := 216) rfl)
theorem k_697 : (Cond.fieldLink "FlatBoxesModel" (80 : Nat) "FlatBoxesModel" "manies" "[I") ∈ tables_1 := gT3 (List.mem_of_getElem? (i := 217) rfl)
theorem k_698 : (Cond.fieldLink "FlatBoxesModel" (83 : Nat) "FlatBoxesModel" "eaches" "[I") ∈ tables_1 := gT3 (List.mem_of_getElem? (i := 218) rfl)
theorem k_699 : (Cond.fieldLink "FlatBoxesModel" (86 : Nat) "FlatBoxesModel" "spreads" "[I") ∈ tables_1 := gT3 (List.mem_of_getElem? (i := 219) rfl)
theorem k_700 : (Cond.lays "FlatBoxesModel" "FlatBoxesModel" "code" "I") ∈ tables_1 := gT3 (List.mem_of_getElem? (i := 220) rfl)
theorem k_701 : (Cond.soleField "FlatBoxesModel" "code") ∈ tables_1 := gT3 (List.mem_of_getElem? (i := 221) rfl)
theorem k_702 : (Cond.laysFinal "FlatBoxesModel" "FlatBoxesModel" "gap" "I") ∈ tables_1 := gT3 (List.mem_of_getElem? (i := 222) rfl)
theorem k_703 : (Cond.soleField "FlatBoxesModel" "gap") ∈ tables_1 := gT3 (List.mem_of_getElem? (i := 223) rfl)
theorem k_704 : (Cond.lays "FlatBoxesModel" "FlatBoxesModel" "cartons" "I") ∈ tables_1 := gT3 (List.mem_of_getElem? (i := 224) rfl)
theorem k_705 : (Cond.soleField "FlatBoxesModel" "cartons") ∈ tables_1 := gT3 (List.mem_of_getElem? (i := 225) rfl)
theorem k_706 : (Cond.laysFinal "FlatBoxesModel" "FlatBoxesModel" "widths" "[I") ∈ tables_1 := gT3 (List.mem_of_getElem? (i := 226) rfl)
theorem k_707 : (Cond.soleField "FlatBoxesModel" "widths") ∈ tables_1 := gT3 (List.mem_of_getElem? (i := 227) rfl)
theorem k_708 : (Cond.laysFinal "FlatBoxesModel" "FlatBoxesModel" "depths" "[I") ∈ tables_1 := gT3 (List.mem_of_getElem? (i := 228) rfl)
theorem k_709 : (Cond.soleField "FlatBoxesModel" "depths") ∈ tables_1 := gT3 (List.mem_of_getElem? (i := 229) rfl)
theorem k_710 : (Cond.laysFinal "FlatBoxesModel" "FlatBoxesModel" "heights" "[I") ∈ tables_1 := gT3 (List.mem_of_getElem? (i := 230) rfl)
theorem k_711 : (Cond.soleField "FlatBoxesModel" "heights") ∈ tables_1 := gT3 (List.mem_of_getElem? (i := 231) rfl)
theorem k_712 : (Cond.laysFinal "FlatBoxesModel" "FlatBoxesModel" "cents" "[I") ∈ tables_1 := gT3 (List.mem_of_getElem? (i := 232) rfl)
theorem k_713 : (Cond.soleField "FlatBoxesModel" "cents") ∈ tables_1 := gT3 (List.mem_of_getElem? (i := 233) rfl)
theorem k_714 : (Cond.laysFinal "FlatBoxesModel" "FlatBoxesModel" "bears" "[I") ∈ tables_1 := gT3 (List.mem_of_getElem? (i := 234) rfl)
theorem k_715 : (Cond.soleField "FlatBoxesModel" "bears") ∈ tables_1 := gT3 (List.mem_of_getElem? (i := 235) rfl)
theorem k_716 : (Cond.lays "FlatBoxesModel" "FlatBoxesModel" "parts" "I") ∈ tables_1 := gT3 (List.mem_of_getElem? (i := 236) rfl)
theorem k_717 : (Cond.soleField "FlatBoxesModel" "parts") ∈ tables_1 := gT3 (List.mem_of_getElem? (i := 237) rfl)
theorem k_718 : (Cond.laysFinal "FlatBoxesModel" "FlatBoxesModel" "wides" "[I") ∈ tables_1 := gT3 (List.mem_of_getElem? (i := 238) rfl)
theorem k_719 : (Cond.soleField "FlatBoxesModel" "wides") ∈ tables_1 := gT3 (List.mem_of_getElem? (i := 239) rfl)
theorem k_720 : (Cond.laysFinal "FlatBoxesModel" "FlatBoxesModel" "deeps" "[I") ∈ tables_1 := gT4 (List.mem_of_getElem? (i := 0) rfl)
theorem k_721 : (Cond.soleField "FlatBoxesModel" "deeps") ∈ tables_1 := gT4 (List.mem_of_getElem? (i := 1) rfl)
theorem k_722 : (Cond.laysFinal "FlatBoxesModel" "FlatBoxesModel" "thicks" "[I") ∈ tables_1 := gT4 (List.mem_of_getElem? (i := 2) rfl)
theorem k_723 : (Cond.soleField "FlatBoxesModel" "thicks") ∈ tables_1 := gT4 (List.mem_of_getElem? (i := 3) rfl)
theorem k_724 : (Cond.laysFinal "FlatBoxesModel" "FlatBoxesModel" "grams" "[I") ∈ tables_1 := gT4 (List.mem_of_getElem? (i := 4) rfl)
theorem k_725 : (Cond.soleField "FlatBoxesModel" "grams") ∈ tables_1 := gT4 (List.mem_of_getElem? (i := 5) rfl)
theorem k_726 : (Cond.laysFinal "FlatBoxesModel" "FlatBoxesModel" "steps" "[I") ∈ tables_1 := gT4 (List.mem_of_getElem? (i := 6) rfl)
theorem k_727 : (Cond.soleField "FlatBoxesModel" "steps") ∈ tables_1 := gT4 (List.mem_of_getElem? (i := 7) rfl)
theorem k_728 : (Cond.laysFinal "FlatBoxesModel" "FlatBoxesModel" "fragiles" "[Z") ∈ tables_1 := gT4 (List.mem_of_getElem? (i := 8) rfl)
theorem k_729 : (Cond.soleField "FlatBoxesModel" "fragiles") ∈ tables_1 := gT4 (List.mem_of_getElem? (i := 9) rfl)
theorem k_730 : (Cond.laysFinal "FlatBoxesModel" "FlatBoxesModel" "layerOf" "[I") ∈ tables_1 := gT4 (List.mem_of_getElem? (i := 10) rfl)
theorem k_731 : (Cond.soleField "FlatBoxesModel" "layerOf") ∈ tables_1 := gT4 (List.mem_of_getElem? (i := 11) rfl)
theorem k_732 : (Cond.laysFinal "FlatBoxesModel" "FlatBoxesModel" "begins" "[I") ∈ tables_1 := gT4 (List.mem_of_getElem? (i := 12) rfl)
theorem k_733 : (Cond.soleField "FlatBoxesModel" "begins") ∈ tables_1 := gT4 (List.mem_of_getElem? (i := 13) rfl)
theorem k_734 : (Cond.lays "FlatBoxesModel" "FlatBoxesModel" "layers" "I") ∈ tables_1 := gT4 (List.mem_of_getElem? (i := 14) rfl)
theorem k_735 : (Cond.soleField "FlatBoxesModel" "layers") ∈ tables_1 := gT4 (List.mem_of_getElem? (i := 15) rfl)
theorem k_736 : (Cond.laysFinal "FlatBoxesModel" "FlatBoxesModel" "used" "[I") ∈ tables_1 := gT4 (List.mem_of_getElem? (i := 16) rfl)
theorem k_737 : (Cond.soleField "FlatBoxesModel" "used") ∈ tables_1 := gT4 (List.mem_of_getElem? (i := 17) rfl)
theorem k_738 : (Cond.laysFinal "FlatBoxesModel" "FlatBoxesModel" "highs" "[I") ∈ tables_1 := gT4 (List.mem_of_getElem? (i := 18) rfl)
theorem k_739 : (Cond.soleField "FlatBoxesModel" "highs") ∈ tables_1 := gT4 (List.mem_of_getElem? (i := 19) rfl)
theorem k_740 : (Cond.laysFinal "FlatBoxesModel" "FlatBoxesModel" "weights" "[I") ∈ tables_1 := gT4 (List.mem_of_getElem? (i := 20) rfl)
theorem k_741 : (Cond.soleField "FlatBoxesModel" "weights") ∈ tables_1 := gT4 (List.mem_of_getElem? (i := 21) rfl)
theorem k_742 : (Cond.laysFinal "FlatBoxesModel" "FlatBoxesModel" "firsts" "[I") ∈ tables_1 := gT4 (List.mem_of_getElem? (i := 22) rfl)
theorem k_743 : (Cond.soleField "FlatBoxesModel" "firsts") ∈ tables_1 := gT4 (List.mem_of_getElem? (i := 23) rfl)
theorem k_744 : (Cond.laysFinal "FlatBoxesModel" "FlatBoxesModel" "breaks" "[Z") ∈ tables_1 := gT4 (List.mem_of_getElem? (i := 24) rfl)
theorem k_745 : (Cond.soleField "FlatBoxesModel" "breaks") ∈ tables_1 := gT4 (List.mem_of_getElem? (i := 25) rfl)
theorem k_746 : (Cond.laysFinal "FlatBoxesModel" "FlatBoxesModel" "boxOf" "[I") ∈ tables_1 := gT4 (List.mem_of_getElem? (i := 26) rfl)
theorem k_747 : (Cond.soleField "FlatBoxesModel" "boxOf") ∈ tables_1 := gT4 (List.mem_of_getElem? (i := 27) rfl)
theorem k_748 : (Cond.lays "FlatBoxesModel" "FlatBoxesModel" "hasShares" "Z") ∈ tables_1 := gT4 (List.mem_of_getElem? (i := 28) rfl)
theorem k_749 : (Cond.soleField "FlatBoxesModel" "hasShares") ∈ tables_1 := gT4 (List.mem_of_getElem? (i := 29) rfl)
theorem k_750 : (Cond.lays "FlatBoxesModel" "FlatBoxesModel" "boxes" "I") ∈ tables_1 := gT4 (List.mem_of_getElem? (i := 30) rfl)
theorem k_751 : (Cond.soleField "FlatBoxesModel" "boxes") ∈ tables_1 := gT4 (List.mem_of_getElem? (i := 31) rfl)
theorem k_752 : (Cond.laysFinal "FlatBoxesModel" "FlatBoxesModel" "shares" "[I") ∈ tables_1 := gT4 (List.mem_of_getElem? (i := 32) rfl)
theorem k_753 : (Cond.soleField "FlatBoxesModel" "shares") ∈ tables_1 := gT4 (List.mem_of_getElem? (i := 33) rfl)
theorem k_754 : (Cond.laysFinal "FlatBoxesModel" "FlatBoxesModel" "trial" "[I") ∈ tables_1 := gT4 (List.mem_of_getElem? (i := 34) rfl)
theorem k_755 : (Cond.soleField "FlatBoxesModel" "trial") ∈ tables_1 := gT4 (List.mem_of_getElem? (i := 35) rfl)
theorem k_756 : (Cond.laysFinal "FlatBoxesModel" "FlatBoxesModel" "sets" "[I") ∈ tables_1 := gT4 (List.mem_of_getElem? (i := 36) rfl)
theorem k_757 : (Cond.soleField "FlatBoxesModel" "sets") ∈ tables_1 := gT4 (List.mem_of_getElem? (i := 37) rfl)
theorem k_758 : (Cond.lays "FlatBoxesModel" "FlatBoxesModel" "bags" "I") ∈ tables_1 := gT4 (List.mem_of_getElem? (i := 38) rfl)
theorem k_759 : (Cond.soleField "FlatBoxesModel" "bags") ∈ tables_1 := gT4 (List.mem_of_getElem? (i := 39) rfl)
theorem k_760 : (Cond.laysFinal "FlatBoxesModel" "FlatBoxesModel" "kindCounts" "[I") ∈ tables_1 := gT4 (List.mem_of_getElem? (i := 40) rfl)
theorem k_761 : (Cond.soleField "FlatBoxesModel" "kindCounts") ∈ tables_1 := gT4 (List.mem_of_getElem? (i := 41) rfl)
theorem k_762 : (Cond.laysFinal "FlatBoxesModel" "FlatBoxesModel" "manies" "[I") ∈ tables_1 := gT4 (List.mem_of_getElem? (i := 42) rfl)
theorem k_763 : (Cond.soleField "FlatBoxesModel" "manies") ∈ tables_1 := gT4 (List.mem_of_getElem? (i := 43) rfl)
theorem k_764 : (Cond.laysFinal "FlatBoxesModel" "FlatBoxesModel" "eaches" "[I") ∈ tables_1 := gT4 (List.mem_of_getElem? (i := 44) rfl)
theorem k_765 : (Cond.soleField "FlatBoxesModel" "eaches") ∈ tables_1 := gT4 (List.mem_of_getElem? (i := 45) rfl)
theorem k_766 : (Cond.laysFinal "FlatBoxesModel" "FlatBoxesModel" "spreads" "[I") ∈ tables_1 := gT4 (List.mem_of_getElem? (i := 46) rfl)
theorem k_767 : (Cond.soleField "FlatBoxesModel" "spreads") ∈ tables_1 := gT4 (List.mem_of_getElem? (i := 47) rfl)
theorem k_768 : (Cond.superclass "FlatBoxesModel" "java/lang/Object") ∈ tables_1 := gT4 (List.mem_of_getElem? (i := 48) rfl)
theorem k_769 : (Cond.methodLink "FlatBoxesLaw" (77 : Nat) ({ cls := "FlatBoxesModel", name := "thrown", desc := "()I" } : MethodName)) ∈ tables_1 := gT4 (List.mem_of_getElem? (i := 49) rfl)
theorem k_770 : (Cond.instanceMethod ({ cls := "FlatBoxesModel", name := "thrown", desc := "()I" } : MethodName)) ∈ tables_1 := gT4 (List.mem_of_getElem? (i := 50) rfl)
theorem k_771 : (Cond.selects "FlatBoxesModel" ({ cls := "FlatBoxesModel", name := "thrown", desc := "()I" } : MethodName) ({ cls := "FlatBoxesModel", name := "thrown", desc := "()I" } : MethodName)) ∈ tables_1 := gT4 (List.mem_of_getElem? (i := 51) rfl)
theorem k_772 : (Cond.code ({ cls := "FlatBoxesModel", name := "thrown", desc := "()I" } : MethodName) prog_9_method_2_code (1 : Nat) (Option.some FieldType.int)) ∈ tables_1 := gT4 (List.mem_of_getElem? (i := 52) rfl)
theorem k_773 : (Cond.methodLink "FlatBoxesLaw" (76 : Nat) ({ cls := "FlatBoxesModel", name := "carton", desc := "(IIIII)I" } : MethodName)) ∈ tables_1 := gT4 (List.mem_of_getElem? (i := 53) rfl)
theorem k_774 : (Cond.instanceMethod ({ cls := "FlatBoxesModel", name := "carton", desc := "(IIIII)I" } : MethodName)) ∈ tables_1 := gT4 (List.mem_of_getElem? (i := 54) rfl)
theorem k_775 : (Cond.selects "FlatBoxesModel" ({ cls := "FlatBoxesModel", name := "carton", desc := "(IIIII)I" } : MethodName) ({ cls := "FlatBoxesModel", name := "carton", desc := "(IIIII)I" } : MethodName)) ∈ tables_1 := gT4 (List.mem_of_getElem? (i := 55) rfl)
theorem k_776 : (Cond.code ({ cls := "FlatBoxesModel", name := "carton", desc := "(IIIII)I" } : MethodName) prog_9_method_5_code (7 : Nat) (Option.some FieldType.int)) ∈ tables_1 := gT4 (List.mem_of_getElem? (i := 56) rfl)
theorem k_777 : (Cond.methodLink "FlatBoxesModel" (100 : Nat) ({ cls := "FlatBoxesModel", name := "isSide", desc := "(I)Z" } : MethodName)) ∈ tables_1 := gT4 (List.mem_of_getElem? (i := 57) rfl)
theorem k_778 : (Cond.static ({ cls := "FlatBoxesModel", name := "isSide", desc := "(I)Z" } : MethodName)) ∈ tables_1 := gT4 (List.mem_of_getElem? (i := 58) rfl)
theorem k_779 : (Cond.code ({ cls := "FlatBoxesModel", name := "isSide", desc := "(I)Z" } : MethodName) prog_9_method_4_code (1 : Nat) (Option.some FieldType.boolean)) ∈ tables_1 := gT4 (List.mem_of_getElem? (i := 59) rfl)
theorem k_780 : (Cond.methodLink "FlatBoxesModel" (96 : Nat) ({ cls := "FlatBoxesModel", name := "in", desc := "(III)Z" } : MethodName)) ∈ tables_1 := gT4 (List.mem_of_getElem? (i := 60) rfl)
theorem k_781 : (Cond.static ({ cls := "FlatBoxesModel", name := "in", desc := "(III)Z" } : MethodName)) ∈ tables_1 := gT4 (List.mem_of_getElem? (i := 61) rfl)
theorem k_782 : (Cond.code ({ cls := "FlatBoxesModel", name := "in", desc := "(III)Z" } : MethodName) prog_9_method_3_code (3 : Nat) (Option.some FieldType.boolean)) ∈ tables_1 := gT4 (List.mem_of_getElem? (i := 62) rfl)
theorem k_783 : (Cond.constant "FlatBoxesModel" (104 : Nat) (100000 : Int32)) ∈ tables_1 := gT4 (List.mem_of_getElem? (i := 63) rfl)
theorem k_784 : (Cond.methodLink "FlatBoxesLaw" (82 : Nat) ({ cls := "FlatBoxesModel", name := "part", desc := "(IIIII)I" } : MethodName)) ∈ tables_1 := gT4 (List.mem_of_getElem? (i := 64) rfl)
theorem k_785 : (Cond.instanceMethod ({ cls := "FlatBoxesModel", name := "part", desc := "(IIIII)I" } : MethodName)) ∈ tables_1 := gT4 (List.mem_of_getElem? (i := 65) rfl)
theorem k_786 : (Cond.selects "FlatBoxesModel" ({ cls := "FlatBoxesModel", name := "part", desc := "(IIIII)I" } : MethodName) ({ cls := "FlatBoxesModel", name := "part", desc := "(IIIII)I" } : MethodName)) ∈ tables_1 := gT4 (List.mem_of_getElem? (i := 66) rfl)
theorem k_787 : (Cond.code ({ cls := "FlatBoxesModel", name := "part", desc := "(IIIII)I" } : MethodName) prog_9_method_6_code (7 : Nat) (Option.some FieldType.int)) ∈ tables_1 := gT4 (List.mem_of_getElem? (i := 67) rfl)
theorem k_788 : (Cond.constant "FlatBoxesModel" (112 : Nat) (50000 : Int32)) ∈ tables_1 := gT4 (List.mem_of_getElem? (i := 68) rfl)
theorem k_789 : (Cond.methodLink "FlatBoxesLaw" (86 : Nat) ({ cls := "FlatBoxesModel", name := "fragile", desc := "(IZ)Z" } : MethodName)) ∈ tables_1 := gT4 (List.mem_of_getElem? (i := 69) rfl)
theorem k_790 : (Cond.instanceMethod ({ cls := "FlatBoxesModel", name := "fragile", desc := "(IZ)Z" } : MethodName)) ∈ tables_1 := gT4 (List.mem_of_getElem? (i := 70) rfl)
theorem k_791 : (Cond.selects "FlatBoxesModel" ({ cls := "FlatBoxesModel", name := "fragile", desc := "(IZ)Z" } : MethodName) ({ cls := "FlatBoxesModel", name := "fragile", desc := "(IZ)Z" } : MethodName)) ∈ tables_1 := gT4 (List.mem_of_getElem? (i := 71) rfl)
theorem k_792 : (Cond.code ({ cls := "FlatBoxesModel", name := "fragile", desc := "(IZ)Z" } : MethodName) prog_9_method_7_code (4 : Nat) (Option.some FieldType.boolean)) ∈ tables_1 := gT4 (List.mem_of_getElem? (i := 72) rfl)
theorem k_793 : (Cond.methodLink "FlatBoxesLaw" (90 : Nat) ({ cls := "FlatBoxesModel", name := "fits", desc := "(II)Z" } : MethodName)) ∈ tables_1 := gT4 (List.mem_of_getElem? (i := 73) rfl)
theorem k_794 : (Cond.instanceMethod ({ cls := "FlatBoxesModel", name := "fits", desc := "(II)Z" } : MethodName)) ∈ tables_1 := gT4 (List.mem_of_getElem? (i := 74) rfl)
theorem k_795 : (Cond.selects "FlatBoxesModel" ({ cls := "FlatBoxesModel", name := "fits", desc := "(II)Z" } : MethodName) ({ cls := "FlatBoxesModel", name := "fits", desc := "(II)Z" } : MethodName)) ∈ tables_1 := gT4 (List.mem_of_getElem? (i := 75) rfl)
theorem k_796 : (Cond.code ({ cls := "FlatBoxesModel", name := "fits", desc := "(II)Z" } : MethodName) prog_9_method_13_code (3 : Nat) (Option.some FieldType.boolean)) ∈ tables_1 := gT4 (List.mem_of_getElem? (i := 76) rfl)
theorem k_797 : (Cond.methodLink "FlatBoxesModel" (135 : Nat) ({ cls := "FlatBoxesModel", name := "pack", desc := "(II)Z" } : MethodName)) ∈ tables_1 := gT4 (List.mem_of_getElem? (i := 77) rfl)
theorem k_798 : (Cond.privateMethod ({ cls := "FlatBoxesModel", name := "pack", desc := "(II)Z" } : MethodName)) ∈ tables_1 := gT4 (List.mem_of_getElem? (i := 78) rfl)
theorem k_799 : (Cond.instanceMethod ({ cls := "FlatBoxesModel", name := "pack", desc := "(II)Z" } : MethodName)) ∈ tables_1 := gT4 (List.mem_of_getElem? (i := 79) rfl)
theorem k_800 : (Cond.code ({ cls := "FlatBoxesModel", name := "pack", desc := "(II)Z" } : MethodName) prog_9_method_11_code (7 : Nat) (Option.some FieldType.boolean)) ∈ tables_1 := gT4 (List.mem_of_getElem? (i := 80) rfl)
theorem k_801 : (Cond.methodLink "FlatBoxesModel" (119 : Nat) ({ cls := "FlatBoxesModel", name := "byThickness", desc := "(I)I" } : MethodName)) ∈ tables_1 := gT4 (List.mem_of_getElem? (i := 81) rfl)
theorem k_802 : (Cond.privateMethod ({ cls := "FlatBoxesModel", name := "byThickness", desc := "(I)I" } : MethodName)) ∈ tables_1 := gT4 (List.mem_of_getElem? (i := 82) rfl)
theorem k_803 : (Cond.instanceMethod ({ cls := "FlatBoxesModel", name := "byThickness", desc := "(I)I" } : MethodName)) ∈ tables_1 := gT4 (List.mem_of_getElem? (i := 83) rfl)
theorem k_804 : (Cond.code ({ cls := "FlatBoxesModel", name := "byThickness", desc := "(I)I" } : MethodName) prog_9_method_9_code (5 : Nat) (Option.some FieldType.int)) ∈ tables_1 := gT4 (List.mem_of_getElem? (i := 84) rfl)
theorem k_805 : (Cond.methodLink "FlatBoxesModel" (123 : Nat) ({ cls := "FlatBoxesModel", name := "has", desc := "(II)Z" } : MethodName)) ∈ tables_1 := gT4 (List.mem_of_getElem? (i := 85) rfl)
theorem k_806 : (Cond.privateMethod ({ cls := "FlatBoxesModel", name := "has", desc := "(II)Z" } : MethodName)) ∈ tables_1 := gT4 (List.mem_of_getElem? (i := 86) rfl)
theorem k_807 : (Cond.instanceMethod ({ cls := "FlatBoxesModel", name := "has", desc := "(II)Z" } : MethodName)) ∈ tables_1 := gT4 (List.mem_of_getElem? (i := 87) rfl)
theorem k_808 : (Cond.code ({ cls := "FlatBoxesModel", name := "has", desc := "(II)Z" } : MethodName) prog_9_method_8_code (3 : Nat) (Option.some FieldType.boolean)) ∈ tables_1 := gT4 (List.mem_of_getElem? (i := 88) rfl)
theorem k_809 : (Cond.methodLink "FlatBoxesModel" (127 : Nat) ({ cls := "FlatBoxesModel", name := "place", desc := "(II)V" } : MethodName)) ∈ tables_1 := gT4 (List.mem_of_getElem? (i := 89) rfl)
theorem k_810 : (Cond.privateMethod ({ cls := "FlatBoxesModel", name := "place", desc := "(II)V" } : MethodName)) ∈ tables_1 := gT4 (List.mem_of_getElem? (i := 90) rfl)
theorem k_811 : (Cond.instanceMethod ({ cls := "FlatBoxesModel", name := "place", desc := "(II)V" } : MethodName)) ∈ tables_1 := gT4 (List.mem_of_getElem? (i := 91) rfl)
theorem k_812 : (Cond.code ({ cls := "FlatBoxesModel", name := "place", desc := "(II)V" } : MethodName) prog_9_method_10_code (4 : Nat) (Option.none : Option ClassFile.FieldType)) ∈ tables_1 := gT4 (List.mem_of_getElem? (i := 92) rfl)
theorem k_813 : (Cond.methodLink "FlatBoxesModel" (131 : Nat) ({ cls := "FlatBoxesModel", name := "highOf", desc := "()I" } : MethodName)) ∈ tables_1 := gT4 (List.mem_of_getElem? (i := 93) rfl)
theorem k_814 : (Cond.privateMethod ({ cls := "FlatBoxesModel", name := "highOf", desc := "()I" } : MethodName)) ∈ tables_1 := gT4 (List.mem_of_getElem? (i := 94) rfl)
theorem k_815 : (Cond.instanceMethod ({ cls := "FlatBoxesModel", name := "highOf", desc := "()I" } : MethodName)) ∈ tables_1 := gT4 (List.mem_of_getElem? (i := 95) rfl)
theorem k_816 : (Cond.code ({ cls := "FlatBoxesModel", name := "highOf", desc := "()I" } : MethodName) prog_9_method_12_code (3 : Nat) (Option.some FieldType.int)) ∈ tables_1 := gT4 (List.mem_of_getElem? (i := 96) rfl)
theorem k_817 : (Cond.methodLink "FlatBoxesLaw" (94 : Nat) ({ cls := "FlatBoxesModel", name := "run", desc := "()I" } : MethodName)) ∈ tables_1 := gT4 (List.mem_of_getElem? (i := 97) rfl)
theorem k_818 : (Cond.instanceMethod ({ cls := "FlatBoxesModel", name := "run", desc := "()I" } : MethodName)) ∈ tables_1 := gT4 (List.mem_of_getElem? (i := 98) rfl)
theorem k_819 : (Cond.selects "FlatBoxesModel" ({ cls := "FlatBoxesModel", name := "run", desc := "()I" } : MethodName) ({ cls := "FlatBoxesModel", name := "run", desc := "()I" } : MethodName)) ∈ tables_1 := gT4 (List.mem_of_getElem? (i := 99) rfl)
theorem k_820 : (Cond.code ({ cls := "FlatBoxesModel", name := "run", desc := "()I" } : MethodName) prog_9_method_18_code (6 : Nat) (Option.some FieldType.int)) ∈ tables_1 := gT4 (List.mem_of_getElem? (i := 100) rfl)
theorem k_821 : (Cond.methodLink "FlatBoxesModel" (138 : Nat) ({ cls := "FlatBoxesModel", name := "findBoxes", desc := "()V" } : MethodName)) ∈ tables_1 := gT4 (List.mem_of_getElem? (i := 101) rfl)
theorem k_822 : (Cond.privateMethod ({ cls := "FlatBoxesModel", name := "findBoxes", desc := "()V" } : MethodName)) ∈ tables_1 := gT4 (List.mem_of_getElem? (i := 102) rfl)
theorem k_823 : (Cond.instanceMethod ({ cls := "FlatBoxesModel", name := "findBoxes", desc := "()V" } : MethodName)) ∈ tables_1 := gT4 (List.mem_of_getElem? (i := 103) rfl)
theorem k_824 : (Cond.code ({ cls := "FlatBoxesModel", name := "findBoxes", desc := "()V" } : MethodName) prog_9_method_14_code (4 : Nat) (Option.none : Option ClassFile.FieldType)) ∈ tables_1 := gT4 (List.mem_of_getElem? (i := 104) rfl)
theorem k_825 : (Cond.methodLink "FlatBoxesModel" (144 : Nat) ({ cls := "FlatBoxesModel", name := "setsOf", desc := "([I)I" } : MethodName)) ∈ tables_1 := gT4 (List.mem_of_getElem? (i := 105) rfl)
theorem k_826 : (Cond.privateMethod ({ cls := "FlatBoxesModel", name := "setsOf", desc := "([I)I" } : MethodName)) ∈ tables_1 := gT4 (List.mem_of_getElem? (i := 106) rfl)
theorem k_827 : (Cond.instanceMethod ({ cls := "FlatBoxesModel", name := "setsOf", desc := "([I)I" } : MethodName)) ∈ tables_1 := gT4 (List.mem_of_getElem? (i := 107) rfl)
theorem k_828 : (Cond.code ({ cls := "FlatBoxesModel", name := "setsOf", desc := "([I)I" } : MethodName) prog_9_method_15_code (4 : Nat) (Option.some FieldType.int)) ∈ tables_1 := gT4 (List.mem_of_getElem? (i := 108) rfl)
theorem k_829 : (Cond.methodLink "FlatBoxesModel" (148 : Nat) ({ cls := "FlatBoxesModel", name := "costOf", desc := "(I)I" } : MethodName)) ∈ tables_1 := gT4 (List.mem_of_getElem? (i := 109) rfl)
theorem k_830 : (Cond.privateMethod ({ cls := "FlatBoxesModel", name := "costOf", desc := "(I)I" } : MethodName)) ∈ tables_1 := gT4 (List.mem_of_getElem? (i := 110) rfl)
theorem k_831 : (Cond.instanceMethod ({ cls := "FlatBoxesModel", name := "costOf", desc := "(I)I" } : MethodName)) ∈ tables_1 := gT4 (List.mem_of_getElem? (i := 111) rfl)
theorem k_832 : (Cond.code ({ cls := "FlatBoxesModel", name := "costOf", desc := "(I)I" } : MethodName) prog_9_method_16_code (4 : Nat) (Option.some FieldType.int)) ∈ tables_1 := gT4 (List.mem_of_getElem? (i := 112) rfl)
theorem k_833 : (Cond.methodLink "FlatBoxesModel" (151 : Nat) ({ cls := "FlatBoxesModel", name := "next", desc := "()Z" } : MethodName)) ∈ tables_1 := gT4 (List.mem_of_getElem? (i := 113) rfl)
theorem k_834 : (Cond.privateMethod ({ cls := "FlatBoxesModel", name := "next", desc := "()Z" } : MethodName)) ∈ tables_1 := gT4 (List.mem_of_getElem? (i := 114) rfl)
theorem k_835 : (Cond.instanceMethod ({ cls := "FlatBoxesModel", name := "next", desc := "()Z" } : MethodName)) ∈ tables_1 := gT4 (List.mem_of_getElem? (i := 115) rfl)
theorem k_836 : (Cond.code ({ cls := "FlatBoxesModel", name := "next", desc := "()Z" } : MethodName) prog_9_method_17_code (4 : Nat) (Option.some FieldType.boolean)) ∈ tables_1 := gT4 (List.mem_of_getElem? (i := 116) rfl)
theorem k_837 : (Cond.methodLink "FlatBoxesLaw" (97 : Nat) ({ cls := "FlatBoxesModel", name := "at", desc := "(II)I" } : MethodName)) ∈ tables_1 := gT4 (List.mem_of_getElem? (i := 117) rfl)
theorem k_838 : (Cond.instanceMethod ({ cls := "FlatBoxesModel", name := "at", desc := "(II)I" } : MethodName)) ∈ tables_1 := gT4 (List.mem_of_getElem? (i := 118) rfl)
theorem k_839 : (Cond.selects "FlatBoxesModel" ({ cls := "FlatBoxesModel", name := "at", desc := "(II)I" } : MethodName) ({ cls := "FlatBoxesModel", name := "at", desc := "(II)I" } : MethodName)) ∈ tables_1 := gT4 (List.mem_of_getElem? (i := 119) rfl)
theorem k_840 : (Cond.code ({ cls := "FlatBoxesModel", name := "at", desc := "(II)I" } : MethodName) prog_9_method_21_code (6 : Nat) (Option.some FieldType.int)) ∈ tables_1 := gT4 (List.mem_of_getElem? (i := 120) rfl)
theorem k_841 : (Cond.methodLink "FlatBoxesModel" (155 : Nat) ({ cls := "FlatBoxesModel", name := "packBox", desc := "(I)I" } : MethodName)) ∈ tables_1 := gT4 (List.mem_of_getElem? (i := 121) rfl)
theorem k_842 : (Cond.privateMethod ({ cls := "FlatBoxesModel", name := "packBox", desc := "(I)I" } : MethodName)) ∈ tables_1 := gT4 (List.mem_of_getElem? (i := 122) rfl)
theorem k_843 : (Cond.instanceMethod ({ cls := "FlatBoxesModel", name := "packBox", desc := "(I)I" } : MethodName)) ∈ tables_1 := gT4 (List.mem_of_getElem? (i := 123) rfl)
theorem k_844 : (Cond.code ({ cls := "FlatBoxesModel", name := "packBox", desc := "(I)I" } : MethodName) prog_9_method_19_code (4 : Nat) (Option.some FieldType.int)) ∈ tables_1 := gT4 (List.mem_of_getElem? (i := 124) rfl)
theorem k_845 : (Cond.methodLink "FlatBoxesModel" (158 : Nat) ({ cls := "FlatBoxesModel", name := "isBelow", desc := "(II)Z" } : MethodName)) ∈ tables_1 := gT4 (List.mem_of_getElem? (i := 125) rfl)
theorem k_846 : (Cond.privateMethod ({ cls := "FlatBoxesModel", name := "isBelow", desc := "(II)Z" } : MethodName)) ∈ tables_1 := gT4 (List.mem_of_getElem? (i := 126) rfl)
theorem k_847 : (Cond.instanceMethod ({ cls := "FlatBoxesModel", name := "isBelow", desc := "(II)Z" } : MethodName)) ∈ tables_1 := gT4 (List.mem_of_getElem? (i := 127) rfl)
theorem k_848 : (Cond.code ({ cls := "FlatBoxesModel", name := "isBelow", desc := "(II)Z" } : MethodName) prog_9_method_20_code (3 : Nat) (Option.some FieldType.boolean)) ∈ tables_1 := gT4 (List.mem_of_getElem? (i := 128) rfl)
theorem k_849 : (Cond.methodLink "FlatBoxesLaw" (100 : Nat) ({ cls := "FlatBoxesModel", name := "box", desc := "(II)I" } : MethodName)) ∈ tables_1 := gT4 (List.mem_of_getElem? (i := 129) rfl)
theorem k_850 : (Cond.instanceMethod ({ cls := "FlatBoxesModel", name := "box", desc := "(II)I" } : MethodName)) ∈ tables_1 := gT4 (List.mem_of_getElem? (i := 130) rfl)
theorem k_851 : (Cond.selects "FlatBoxesModel" ({ cls := "FlatBoxesModel", name := "box", desc := "(II)I" } : MethodName) ({ cls := "FlatBoxesModel", name := "box", desc := "(II)I" } : MethodName)) ∈ tables_1 := gT4 (List.mem_of_getElem? (i := 131) rfl)
theorem k_852 : (Cond.code ({ cls := "FlatBoxesModel", name := "box", desc := "(II)I" } : MethodName) prog_9_method_23_code (6 : Nat) (Option.some FieldType.int)) ∈ tables_1 := gT4 (List.mem_of_getElem? (i := 132) rfl)
theorem k_853 : (Cond.methodLink "FlatBoxesModel" (161 : Nat) ({ cls := "FlatBoxesModel", name := "gramsOf", desc := "(I)I" } : MethodName)) ∈ tables_1 := gT4 (List.mem_of_getElem? (i := 133) rfl)
theorem k_854 : (Cond.privateMethod ({ cls := "FlatBoxesModel", name := "gramsOf", desc := "(I)I" } : MethodName)) ∈ tables_1 := gT4 (List.mem_of_getElem? (i := 134) rfl)
theorem k_855 : (Cond.instanceMethod ({ cls := "FlatBoxesModel", name := "gramsOf", desc := "(I)I" } : MethodName)) ∈ tables_1 := gT4 (List.mem_of_getElem? (i := 135) rfl)
theorem k_856 : (Cond.code ({ cls := "FlatBoxesModel", name := "gramsOf", desc := "(I)I" } : MethodName) prog_9_method_22_code (4 : Nat) (Option.some FieldType.int)) ∈ tables_1 := gT4 (List.mem_of_getElem? (i := 136) rfl)
theorem k_857 : (Cond.methodLink "FlatBoxesLaw" (104 : Nat) ({ cls := "FlatBoxesModel", name := "cost", desc := "()I" } : MethodName)) ∈ tables_1 := gT4 (List.mem_of_getElem? (i := 137) rfl)
theorem k_858 : (Cond.instanceMethod ({ cls := "FlatBoxesModel", name := "cost", desc := "()I" } : MethodName)) ∈ tables_1 := gT4 (List.mem_of_getElem? (i := 138) rfl)
theorem k_859 : (Cond.selects "FlatBoxesModel" ({ cls := "FlatBoxesModel", name := "cost", desc := "()I" } : MethodName) ({ cls := "FlatBoxesModel", name := "cost", desc := "()I" } : MethodName)) ∈ tables_1 := gT4 (List.mem_of_getElem? (i := 139) rfl)
theorem k_860 : (Cond.code ({ cls := "FlatBoxesModel", name := "cost", desc := "()I" } : MethodName) prog_9_method_24_code (1 : Nat) (Option.some FieldType.int)) ∈ tables_1 := gT4 (List.mem_of_getElem? (i := 140) rfl)
theorem k_861 : (Cond.methodLink "FlatBoxesLaw" (108 : Nat) ({ cls := "FlatBoxesModel", name := "manual", desc := "(I)I" } : MethodName)) ∈ tables_1 := gT4 (List.mem_of_getElem? (i := 141) rfl)
theorem k_862 : (Cond.instanceMethod ({ cls := "FlatBoxesModel", name := "manual", desc := "(I)I" } : MethodName)) ∈ tables_1 := gT4 (List.mem_of_getElem? (i := 142) rfl)
theorem k_863 : (Cond.selects "FlatBoxesModel" ({ cls := "FlatBoxesModel", name := "manual", desc := "(I)I" } : MethodName) ({ cls := "FlatBoxesModel", name := "manual", desc := "(I)I" } : MethodName)) ∈ tables_1 := gT4 (List.mem_of_getElem? (i := 143) rfl)
theorem k_864 : (Cond.code ({ cls := "FlatBoxesModel", name := "manual", desc := "(I)I" } : MethodName) prog_9_method_25_code (5 : Nat) (Option.some FieldType.int)) ∈ tables_1 := gT4 (List.mem_of_getElem? (i := 144) rfl)
theorem k_865 : (Cond.methodLink "FlatBoxesLaw" (111 : Nat) ({ cls := "FlatBoxesModel", name := "bag", desc := "()I" } : MethodName)) ∈ tables_1 := gT4 (List.mem_of_getElem? (i := 145) rfl)
theorem k_866 : (Cond.instanceMethod ({ cls := "FlatBoxesModel", name := "bag", desc := "()I" } : MethodName)) ∈ tables_1 := gT4 (List.mem_of_getElem? (i := 146) rfl)
theorem k_867 : (Cond.selects "FlatBoxesModel" ({ cls := "FlatBoxesModel", name := "bag", desc := "()I" } : MethodName) ({ cls := "FlatBoxesModel", name := "bag", desc := "()I" } : MethodName)) ∈ tables_1 := gT4 (List.mem_of_getElem? (i := 147) rfl)
theorem k_868 : (Cond.code ({ cls := "FlatBoxesModel", name := "bag", desc := "()I" } : MethodName) prog_9_method_26_code (1 : Nat) (Option.some FieldType.int)) ∈ tables_1 := gT4 (List.mem_of_getElem? (i := 148) rfl)
theorem k_869 : (Cond.methodLink "FlatBoxesLaw" (115 : Nat) ({ cls := "FlatBoxesModel", name := "into", desc := "(IIII)I" } : MethodName)) ∈ tables_1 := gT4 (List.mem_of_getElem? (i := 149) rfl)
theorem k_870 : (Cond.instanceMethod ({ cls := "FlatBoxesModel", name := "into", desc := "(IIII)I" } : MethodName)) ∈ tables_1 := gT4 (List.mem_of_getElem? (i := 150) rfl)
theorem k_871 : (Cond.selects "FlatBoxesModel" ({ cls := "FlatBoxesModel", name := "into", desc := "(IIII)I" } : MethodName) ({ cls := "FlatBoxesModel", name := "into", desc := "(IIII)I" } : MethodName)) ∈ tables_1 := gT4 (List.mem_of_getElem? (i := 151) rfl)
theorem k_872 : (Cond.code ({ cls := "FlatBoxesModel", name := "into", desc := "(IIII)I" } : MethodName) prog_9_method_27_code (7 : Nat) (Option.some FieldType.int)) ∈ tables_1 := gT4 (List.mem_of_getElem? (i := 152) rfl)
theorem k_873 : (Cond.methodLink "FlatBoxesLaw" (118 : Nat) ({ cls := "FlatBoxesModel", name := "counted", desc := "(II)I" } : MethodName)) ∈ tables_1 := gT4 (List.mem_of_getElem? (i := 153) rfl)
theorem k_874 : (Cond.instanceMethod ({ cls := "FlatBoxesModel", name := "counted", desc := "(II)I" } : MethodName)) ∈ tables_1 := gT4 (List.mem_of_getElem? (i := 154) rfl)
theorem k_875 : (Cond.selects "FlatBoxesModel" ({ cls := "FlatBoxesModel", name := "counted", desc := "(II)I" } : MethodName) ({ cls := "FlatBoxesModel", name := "counted", desc := "(II)I" } : MethodName)) ∈ tables_1 := gT4 (List.mem_of_getElem? (i := 155) rfl)
theorem k_876 : (Cond.code ({ cls := "FlatBoxesModel", name := "counted", desc := "(II)I" } : MethodName) prog_9_method_29_code (7 : Nat) (Option.some FieldType.int)) ∈ tables_1 := gT4 (List.mem_of_getElem? (i := 156) rfl)
theorem k_877 : (Cond.methodLink "FlatBoxesModel" (167 : Nat) ({ cls := "FlatBoxesModel", name := "isWithin", desc := "(III)Z" } : MethodName)) ∈ tables_1 := gT4 (List.mem_of_getElem? (i := 157) rfl)
theorem k_878 : (Cond.static ({ cls := "FlatBoxesModel", name := "isWithin", desc := "(III)Z" } : MethodName)) ∈ tables_1 := gT4 (List.mem_of_getElem? (i := 158) rfl)
theorem k_879 : (Cond.code ({ cls := "FlatBoxesModel", name := "isWithin", desc := "(III)Z" } : MethodName) prog_9_method_28_code (3 : Nat) (Option.some FieldType.boolean)) ∈ tables_1 := gT4 (List.mem_of_getElem? (i := 159) rfl)
theorem k_880 : (Cond.methodLink "FlatBoxesLaw" (121 : Nat) ({ cls := "FlatBoxesModel", name := "raised", desc := "(II)Z" } : MethodName)) ∈ tables_1 := gT4 (List.mem_of_getElem? (i := 160) rfl)
theorem k_881 : (Cond.instanceMethod ({ cls := "FlatBoxesModel", name := "raised", desc := "(II)Z" } : MethodName)) ∈ tables_1 := gT4 (List.mem_of_getElem? (i := 161) rfl)
theorem k_882 : (Cond.selects "FlatBoxesModel" ({ cls := "FlatBoxesModel", name := "raised", desc := "(II)Z" } : MethodName) ({ cls := "FlatBoxesModel", name := "raised", desc := "(II)Z" } : MethodName)) ∈ tables_1 := gT4 (List.mem_of_getElem? (i := 162) rfl)
theorem k_883 : (Cond.code ({ cls := "FlatBoxesModel", name := "raised", desc := "(II)Z" } : MethodName) prog_9_method_30_code (4 : Nat) (Option.some FieldType.boolean)) ∈ tables_1 := gT4 (List.mem_of_getElem? (i := 163) rfl)
theorem k_884 : (Cond.methodLink "FlatBoxesLaw" (124 : Nat) ({ cls := "FlatBoxesModel", name := "pallets", desc := "(I)I" } : MethodName)) ∈ tables_1 := gT4 (List.mem_of_getElem? (i := 164) rfl)
theorem k_885 : (Cond.instanceMethod ({ cls := "FlatBoxesModel", name := "pallets", desc := "(I)I" } : MethodName)) ∈ tables_1 := gT4 (List.mem_of_getElem? (i := 165) rfl)
theorem k_886 : (Cond.selects "FlatBoxesModel" ({ cls := "FlatBoxesModel", name := "pallets", desc := "(I)I" } : MethodName) ({ cls := "FlatBoxesModel", name := "pallets", desc := "(I)I" } : MethodName)) ∈ tables_1 := gT4 (List.mem_of_getElem? (i := 166) rfl)
theorem k_887 : (Cond.code ({ cls := "FlatBoxesModel", name := "pallets", desc := "(I)I" } : MethodName) prog_9_method_31_code (8 : Nat) (Option.some FieldType.int)) ∈ tables_1 := gT4 (List.mem_of_getElem? (i := 167) rfl)
theorem k_888 : (Cond.constant "FlatBoxesModel" (170 : Nat) (1000000 : Int32)) ∈ tables_1 := gT4 (List.mem_of_getElem? (i := 168) rfl)
theorem k_889 : (Cond.arrayClass FieldType.long) ∈ tables_1 := gT4 (List.mem_of_getElem? (i := 169) rfl)
theorem k_890 : (Cond.sameMethod "java/lang/Throwable" "java/lang/Throwable" "fillInStackTrace" "(I)Ljava/lang/Throwable;") ∈ tables_1 := gT4 (List.mem_of_getElem? (i := 170) rfl)
end
section
/-! decode rows: written by wip/gen/names.py -/
theorem d_Md_init_0 : decode b_Md_init 0 = .ok (.aload_n 0, 1) := by decide +kernel
theorem d_Md_init_1 : decode b_Md_init 1 = .ok (.invokespecial 1, 3) := by decide +kernel
theorem d_Md_init_4 : decode b_Md_init 4 = .ok (.aload_n 0, 1) := by decide +kernel
theorem d_Md_init_5 : decode b_Md_init 5 = .ok (.iconst 4, 1) := by decide +kernel
theorem d_Md_init_6 : decode b_Md_init 6 = .ok (.newarray .int, 2) := by decide +kernel
theorem d_Md_init_8 : decode b_Md_init 8 = .ok (.putfield 7, 3) := by decide +kernel
theorem d_Md_init_11 : decode b_Md_init 11 = .ok (.aload_n 0, 1) := by decide +kernel
theorem d_Md_init_12 : decode b_Md_init 12 = .ok (.iconst 4, 1) := by decide +kernel
theorem d_Md_init_13 : decode b_Md_init 13 = .ok (.newarray .int, 2) := by decide +kernel
theorem d_Md_init_15 : decode b_Md_init 15 = .ok (.putfield 13, 3) := by decide +kernel
theorem d_Md_init_18 : decode b_Md_init 18 = .ok (.aload_n 0, 1) := by decide +kernel
theorem d_Md_init_19 : decode b_Md_init 19 = .ok (.iconst 4, 1) := by decide +kernel
theorem d_Md_init_20 : decode b_Md_init 20 = .ok (.newarray .int, 2) := by decide +kernel
theorem d_Md_init_22 : decode b_Md_init 22 = .ok (.putfield 16, 3) := by decide +kernel
theorem d_Md_init_25 : decode b_Md_init 25 = .ok (.aload_n 0, 1) := by decide +kernel
theorem d_Md_init_26 : decode b_Md_init 26 = .ok (.iconst 4, 1) := by decide +kernel
theorem d_Md_init_27 : decode b_Md_init 27 = .ok (.newarray .int, 2) := by decide +kernel
theorem d_Md_init_29 : decode b_Md_init 29 = .ok (.putfield 19, 3) := by decide +kernel
theorem d_Md_init_32 : decode b_Md_init 32 = .ok (.aload_n 0, 1) := by decide +kernel
theorem d_Md_init_33 : decode b_Md_init 33 = .ok (.iconst 4, 1) := by decide +kernel
theorem d_Md_init_34 : decode b_Md_init 34 = .ok (.newarray .int, 2) := by decide +kernel
theorem d_Md_init_36 : decode b_Md_init 36 = .ok (.putfield 22, 3) := by decide +kernel
theorem d_Md_init_39 : decode b_Md_init 39 = .ok (.aload_n 0, 1) := by decide +kernel
theorem d_Md_init_40 : decode b_Md_init 40 = .ok (.bipush 8, 2) := by decide +kernel
theorem d_Md_init_42 : decode b_Md_init 42 = .ok (.newarray .int, 2) := by decide +kernel
theorem d_Md_init_44 : decode b_Md_init 44 = .ok (.putfield 25, 3) := by decide +kernel
theorem d_Md_init_47 : decode b_Md_init 47 = .ok (.aload_n 0, 1) := by decide +kernel
theorem d_Md_init_48 : decode b_Md_init 48 = .ok (.bipush 8, 2) := by decide +kernel
theorem d_Md_init_50 : decode b_Md_init 50 = .ok (.newarray .int, 2) := by decide +kernel
theorem d_Md_init_52 : decode b_Md_init 52 = .ok (.putfield 28, 3) := by decide +kernel
theorem d_Md_init_55 : decode b_Md_init 55 = .ok (.aload_n 0, 1) := by decide +kernel
theorem d_Md_init_56 : decode b_Md_init 56 = .ok (.bipush 8, 2) := by decide +kernel
theorem d_Md_init_58 : decode b_Md_init 58 = .ok (.newarray .int, 2) := by decide +kernel
theorem d_Md_init_60 : decode b_Md_init 60 = .ok (.putfield 31, 3) := by decide +kernel
theorem d_Md_init_63 : decode b_Md_init 63 = .ok (.aload_n 0, 1) := by decide +kernel
theorem d_Md_init_64 : decode b_Md_init 64 = .ok (.bipush 8, 2) := by decide +kernel
theorem d_Md_init_66 : decode b_Md_init 66 = .ok (.newarray .int, 2) := by decide +kernel
theorem d_Md_init_68 : decode b_Md_init 68 = .ok (.putfield 34, 3) := by decide +kernel
theorem d_Md_init_71 : decode b_Md_init 71 = .ok (.aload_n 0, 1) := by decide +kernel
theorem d_Md_init_72 : decode b_Md_init 72 = .ok (.bipush 8, 2) := by decide +kernel
theorem d_Md_init_74 : decode b_Md_init 74 = .ok (.newarray .int, 2) := by decide +kernel
theorem d_Md_init_76 : decode b_Md_init 76 = .ok (.putfield 37, 3) := by decide +kernel
theorem d_Md_init_79 : decode b_Md_init 79 = .ok (.aload_n 0, 1) := by decide +kernel
theorem d_Md_init_80 : decode b_Md_init 80 = .ok (.bipush 8, 2) := by decide +kernel
theorem d_Md_init_82 : decode b_Md_init 82 = .ok (.newarray .boolean, 2) := by decide +kernel
theorem d_Md_init_84 : decode b_Md_init 84 = .ok (.putfield 40, 3) := by decide +kernel
theorem d_Md_init_87 : decode b_Md_init 87 = .ok (.aload_n 0, 1) := by decide +kernel
theorem d_Md_init_88 : decode b_Md_init 88 = .ok (.bipush 8, 2) := by decide +kernel
theorem d_Md_init_90 : decode b_Md_init 90 = .ok (.newarray .int, 2) := by decide +kernel
theorem d_Md_init_92 : decode b_Md_init 92 = .ok (.putfield 44, 3) := by decide +kernel
theorem d_Md_init_95 : decode b_Md_init 95 = .ok (.aload_n 0, 1) := by decide +kernel
theorem d_Md_init_96 : decode b_Md_init 96 = .ok (.bipush 8, 2) := by decide +kernel
theorem d_Md_init_98 : decode b_Md_init 98 = .ok (.newarray .int, 2) := by decide +kernel
theorem d_Md_init_100 : decode b_Md_init 100 = .ok (.putfield 47, 3) := by decide +kernel
theorem d_Md_init_103 : decode b_Md_init 103 = .ok (.aload_n 0, 1) := by decide +kernel
theorem d_Md_init_104 : decode b_Md_init 104 = .ok (.bipush 8, 2) := by decide +kernel
theorem d_Md_init_106 : decode b_Md_init 106 = .ok (.newarray .int, 2) := by decide +kernel
theorem d_Md_init_108 : decode b_Md_init 108 = .ok (.putfield 50, 3) := by decide +kernel
theorem d_Md_init_111 : decode b_Md_init 111 = .ok (.aload_n 0, 1) := by decide +kernel
theorem d_Md_init_112 : decode b_Md_init 112 = .ok (.bipush 8, 2) := by decide +kernel
theorem d_Md_init_114 : decode b_Md_init 114 = .ok (.newarray .int, 2) := by decide +kernel
theorem d_Md_init_116 : decode b_Md_init 116 = .ok (.putfield 53, 3) := by decide +kernel
theorem d_Md_init_119 : decode b_Md_init 119 = .ok (.aload_n 0, 1) := by decide +kernel
theorem d_Md_init_120 : decode b_Md_init 120 = .ok (.bipush 8, 2) := by decide +kernel
theorem d_Md_init_122 : decode b_Md_init 122 = .ok (.newarray .int, 2) := by decide +kernel
theorem d_Md_init_124 : decode b_Md_init 124 = .ok (.putfield 56, 3) := by decide +kernel
theorem d_Md_init_127 : decode b_Md_init 127 = .ok (.aload_n 0, 1) := by decide +kernel
theorem d_Md_init_128 : decode b_Md_init 128 = .ok (.bipush 8, 2) := by decide +kernel
theorem d_Md_init_130 : decode b_Md_init 130 = .ok (.newarray .int, 2) := by decide +kernel
theorem d_Md_init_132 : decode b_Md_init 132 = .ok (.putfield 59, 3) := by decide +kernel
theorem d_Md_init_135 : decode b_Md_init 135 = .ok (.aload_n 0, 1) := by decide +kernel
theorem d_Md_init_136 : decode b_Md_init 136 = .ok (.bipush 8, 2) := by decide +kernel
theorem d_Md_init_138 : decode b_Md_init 138 = .ok (.newarray .boolean, 2) := by decide +kernel
theorem d_Md_init_140 : decode b_Md_init 140 = .ok (.putfield 62, 3) := by decide +kernel
theorem d_Md_init_143 : decode b_Md_init 143 = .ok (.aload_n 0, 1) := by decide +kernel
theorem d_Md_init_144 : decode b_Md_init 144 = .ok (.sipush 256, 3) := by decide +kernel
theorem d_Md_init_147 : decode b_Md_init 147 = .ok (.newarray .int, 2) := by decide +kernel
theorem d_Md_init_149 : decode b_Md_init 149 = .ok (.putfield 65, 3) := by decide +kernel
theorem d_Md_init_152 : decode b_Md_init 152 = .ok (.aload_n 0, 1) := by decide +kernel
theorem d_Md_init_153 : decode b_Md_init 153 = .ok (.bipush 8, 2) := by decide +kernel
theorem d_Md_init_155 : decode b_Md_init 155 = .ok (.newarray .int, 2) := by decide +kernel
theorem d_Md_init_157 : decode b_Md_init 157 = .ok (.putfield 68, 3) := by decide +kernel
theorem d_Md_init_160 : decode b_Md_init 160 = .ok (.aload_n 0, 1) := by decide +kernel
theorem d_Md_init_161 : decode b_Md_init 161 = .ok (.bipush 8, 2) := by decide +kernel
theorem d_Md_init_163 : decode b_Md_init 163 = .ok (.newarray .int, 2) := by decide +kernel
theorem d_Md_init_165 : decode b_Md_init 165 = .ok (.putfield 71, 3) := by decide +kernel
theorem d_Md_init_168 : decode b_Md_init 168 = .ok (.aload_n 0, 1) := by decide +kernel
theorem d_Md_init_169 : decode b_Md_init 169 = .ok (.bipush 8, 2) := by decide +kernel
theorem d_Md_init_171 : decode b_Md_init 171 = .ok (.newarray .int, 2) := by decide +kernel
theorem d_Md_init_173 : decode b_Md_init 173 = .ok (.putfield 74, 3) := by decide +kernel
theorem d_Md_init_176 : decode b_Md_init 176 = .ok (.aload_n 0, 1) := by decide +kernel
theorem d_Md_init_177 : decode b_Md_init 177 = .ok (.iconst 4, 1) := by decide +kernel
theorem d_Md_init_178 : decode b_Md_init 178 = .ok (.newarray .int, 2) := by decide +kernel
theorem d_Md_init_180 : decode b_Md_init 180 = .ok (.putfield 77, 3) := by decide +kernel
theorem d_Md_init_183 : decode b_Md_init 183 = .ok (.aload_n 0, 1) := by decide +kernel
theorem d_Md_init_184 : decode b_Md_init 184 = .ok (.bipush 24, 2) := by decide +kernel
theorem d_Md_init_186 : decode b_Md_init 186 = .ok (.newarray .int, 2) := by decide +kernel
theorem d_Md_init_188 : decode b_Md_init 188 = .ok (.putfield 80, 3) := by decide +kernel
theorem d_Md_init_191 : decode b_Md_init 191 = .ok (.aload_n 0, 1) := by decide +kernel
theorem d_Md_init_192 : decode b_Md_init 192 = .ok (.bipush 24, 2) := by decide +kernel
theorem d_Md_init_194 : decode b_Md_init 194 = .ok (.newarray .int, 2) := by decide +kernel
theorem d_Md_init_196 : decode b_Md_init 196 = .ok (.putfield 83, 3) := by decide +kernel
theorem d_Md_init_199 : decode b_Md_init 199 = .ok (.aload_n 0, 1) := by decide +kernel
theorem d_Md_init_200 : decode b_Md_init 200 = .ok (.bipush 24, 2) := by decide +kernel
theorem d_Md_init_202 : decode b_Md_init 202 = .ok (.newarray .int, 2) := by decide +kernel
theorem d_Md_init_204 : decode b_Md_init 204 = .ok (.putfield 86, 3) := by decide +kernel
theorem d_Md_init_207 : decode b_Md_init 207 = .ok (.aload_n 0, 1) := by decide +kernel
theorem d_Md_init_208 : decode b_Md_init 208 = .ok (.iload_n 1, 1) := by decide +kernel
theorem d_Md_init_209 : decode b_Md_init 209 = .ok (.ifCond .ge 7, 3) := by decide +kernel
theorem d_Md_init_212 : decode b_Md_init 212 = .ok (.iconst 0, 1) := by decide +kernel
theorem d_Md_init_213 : decode b_Md_init 213 = .ok (.goto 15, 3) := by decide +kernel
theorem d_Md_init_216 : decode b_Md_init 216 = .ok (.iload_n 1, 1) := by decide +kernel
theorem d_Md_init_217 : decode b_Md_init 217 = .ok (.bipush 10, 2) := by decide +kernel
theorem d_Md_init_219 : decode b_Md_init 219 = .ok (.if_icmp .le 8, 3) := by decide +kernel
theorem d_Md_init_222 : decode b_Md_init 222 = .ok (.bipush 10, 2) := by decide +kernel
theorem d_Md_init_224 : decode b_Md_init 224 = .ok (.goto 4, 3) := by decide +kernel
theorem d_Md_init_227 : decode b_Md_init 227 = .ok (.iload_n 1, 1) := by decide +kernel
theorem d_Md_init_228 : decode b_Md_init 228 = .ok (.putfield 89, 3) := by decide +kernel
theorem d_Md_init_231 : decode b_Md_init 231 = .ok (.return_, 1) := by decide +kernel
theorem d_Md_thrown_0 : decode b_Md_thrown 0 = .ok (.aload_n 0, 1) := by decide +kernel
theorem d_Md_thrown_1 : decode b_Md_thrown 1 = .ok (.getfield 93, 3) := by decide +kernel
theorem d_Md_thrown_4 : decode b_Md_thrown 4 = .ok (.ireturn, 1) := by decide +kernel
theorem d_Md_in_0 : decode b_Md_in 0 = .ok (.iload_n 0, 1) := by decide +kernel
theorem d_Md_in_1 : decode b_Md_in 1 = .ok (.iload_n 1, 1) := by decide +kernel
theorem d_Md_in_2 : decode b_Md_in 2 = .ok (.if_icmp .lt 12, 3) := by decide +kernel
theorem d_Md_in_5 : decode b_Md_in 5 = .ok (.iload_n 0, 1) := by decide +kernel
theorem d_Md_in_6 : decode b_Md_in 6 = .ok (.iload_n 2, 1) := by decide +kernel
theorem d_Md_in_7 : decode b_Md_in 7 = .ok (.if_icmp .gt 7, 3) := by decide +kernel
theorem d_Md_in_10 : decode b_Md_in 10 = .ok (.iconst 1, 1) := by decide +kernel
theorem d_Md_in_11 : decode b_Md_in 11 = .ok (.goto 4, 3) := by decide +kernel
theorem d_Md_in_14 : decode b_Md_in 14 = .ok (.iconst 0, 1) := by decide +kernel
theorem d_Md_in_15 : decode b_Md_in 15 = .ok (.ireturn, 1) := by decide +kernel
theorem d_Md_isSide_0 : decode b_Md_isSide 0 = .ok (.iload_n 0, 1) := by decide +kernel
theorem d_Md_isSide_1 : decode b_Md_isSide 1 = .ok (.iconst 1, 1) := by decide +kernel
theorem d_Md_isSide_2 : decode b_Md_isSide 2 = .ok (.bipush 100, 2) := by decide +kernel
theorem d_Md_isSide_4 : decode b_Md_isSide 4 = .ok (.invokestatic 96, 3) := by decide +kernel
theorem d_Md_isSide_7 : decode b_Md_isSide 7 = .ok (.ireturn, 1) := by decide +kernel
theorem d_Md_carton_0 : decode b_Md_carton 0 = .ok (.iload_n 1, 1) := by decide +kernel
theorem d_Md_carton_1 : decode b_Md_carton 1 = .ok (.invokestatic 100, 3) := by decide +kernel
theorem d_Md_carton_4 : decode b_Md_carton 4 = .ok (.ifCond .eq 43, 3) := by decide +kernel
theorem d_Md_carton_7 : decode b_Md_carton 7 = .ok (.iload_n 2, 1) := by decide +kernel
theorem d_Md_carton_8 : decode b_Md_carton 8 = .ok (.invokestatic 100, 3) := by decide +kernel
theorem d_Md_carton_11 : decode b_Md_carton 11 = .ok (.ifCond .eq 36, 3) := by decide +kernel
theorem d_Md_carton_14 : decode b_Md_carton 14 = .ok (.iload_n 3, 1) := by decide +kernel
theorem d_Md_carton_15 : decode b_Md_carton 15 = .ok (.invokestatic 100, 3) := by decide +kernel
theorem d_Md_carton_18 : decode b_Md_carton 18 = .ok (.ifCond .eq 29, 3) := by decide +kernel
theorem d_Md_carton_21 : decode b_Md_carton 21 = .ok (.iload 4, 2) := by decide +kernel
theorem d_Md_carton_23 : decode b_Md_carton 23 = .ok (.iconst 1, 1) := by decide +kernel
theorem d_Md_carton_24 : decode b_Md_carton 24 = .ok (.ldc 104, 2) := by decide +kernel
theorem d_Md_carton_26 : decode b_Md_carton 26 = .ok (.invokestatic 96, 3) := by decide +kernel
theorem d_Md_carton_29 : decode b_Md_carton 29 = .ok (.ifCond .eq 18, 3) := by decide +kernel
theorem d_Md_carton_32 : decode b_Md_carton 32 = .ok (.iload 5, 2) := by decide +kernel
theorem d_Md_carton_34 : decode b_Md_carton 34 = .ok (.iconst 1, 1) := by decide +kernel
theorem d_Md_carton_35 : decode b_Md_carton 35 = .ok (.ldc 104, 2) := by decide +kernel
theorem d_Md_carton_37 : decode b_Md_carton 37 = .ok (.invokestatic 96, 3) := by decide +kernel
theorem d_Md_carton_40 : decode b_Md_carton 40 = .ok (.ifCond .eq 7, 3) := by decide +kernel
theorem d_Md_carton_43 : decode b_Md_carton 43 = .ok (.iconst 1, 1) := by decide +kernel
theorem d_Md_carton_44 : decode b_Md_carton 44 = .ok (.goto 4, 3) := by decide +kernel
theorem d_Md_carton_47 : decode b_Md_carton 47 = .ok (.iconst 0, 1) := by decide +kernel
theorem d_Md_carton_48 : decode b_Md_carton 48 = .ok (.istore 6, 2) := by decide +kernel
theorem d_Md_carton_50 : decode b_Md_carton 50 = .ok (.aload_n 0, 1) := by decide +kernel
theorem d_Md_carton_51 : decode b_Md_carton 51 = .ok (.iload 6, 2) := by decide +kernel
theorem d_Md_carton_53 : decode b_Md_carton 53 = .ok (.ifCond .ne 7, 3) := by decide +kernel
theorem d_Md_carton_56 : decode b_Md_carton 56 = .ok (.iconst 1, 1) := by decide +kernel
theorem d_Md_carton_57 : decode b_Md_carton 57 = .ok (.goto 16, 3) := by decide +kernel
theorem d_Md_carton_60 : decode b_Md_carton 60 = .ok (.aload_n 0, 1) := by decide +kernel
theorem d_Md_carton_61 : decode b_Md_carton 61 = .ok (.getfield 105, 3) := by decide +kernel
theorem d_Md_carton_64 : decode b_Md_carton 64 = .ok (.iconst 4, 1) := by decide +kernel
theorem d_Md_carton_65 : decode b_Md_carton 65 = .ok (.if_icmp .ne 7, 3) := by decide +kernel
theorem d_Md_carton_68 : decode b_Md_carton 68 = .ok (.iconst 2, 1) := by decide +kernel
theorem d_Md_carton_69 : decode b_Md_carton 69 = .ok (.goto 4, 3) := by decide +kernel
theorem d_Md_carton_72 : decode b_Md_carton 72 = .ok (.iconst 0, 1) := by decide +kernel
theorem d_Md_carton_73 : decode b_Md_carton 73 = .ok (.putfield 93, 3) := by decide +kernel
theorem d_Md_carton_76 : decode b_Md_carton 76 = .ok (.aload_n 0, 1) := by decide +kernel
theorem d_Md_carton_77 : decode b_Md_carton 77 = .ok (.getfield 93, 3) := by decide +kernel
theorem d_Md_carton_80 : decode b_Md_carton 80 = .ok (.ifCond .le 5, 3) := by decide +kernel
theorem d_Md_carton_83 : decode b_Md_carton 83 = .ok (.iconst 0, 1) := by decide +kernel
theorem d_Md_carton_84 : decode b_Md_carton 84 = .ok (.ireturn, 1) := by decide +kernel
theorem d_Md_carton_85 : decode b_Md_carton 85 = .ok (.aload_n 0, 1) := by decide +kernel
theorem d_Md_carton_86 : decode b_Md_carton 86 = .ok (.getfield 7, 3) := by decide +kernel
theorem d_Md_carton_89 : decode b_Md_carton 89 = .ok (.aload_n 0, 1) := by decide +kernel
theorem d_Md_carton_90 : decode b_Md_carton 90 = .ok (.getfield 105, 3) := by decide +kernel
theorem d_Md_carton_93 : decode b_Md_carton 93 = .ok (.iload_n 1, 1) := by decide +kernel
theorem d_Md_carton_94 : decode b_Md_carton 94 = .ok (.iastore, 1) := by decide +kernel
theorem d_Md_carton_95 : decode b_Md_carton 95 = .ok (.aload_n 0, 1) := by decide +kernel
theorem d_Md_carton_96 : decode b_Md_carton 96 = .ok (.getfield 13, 3) := by decide +kernel
theorem d_Md_carton_99 : decode b_Md_carton 99 = .ok (.aload_n 0, 1) := by decide +kernel
theorem d_Md_carton_100 : decode b_Md_carton 100 = .ok (.getfield 105, 3) := by decide +kernel
theorem d_Md_carton_103 : decode b_Md_carton 103 = .ok (.iload_n 2, 1) := by decide +kernel
theorem d_Md_carton_104 : decode b_Md_carton 104 = .ok (.iastore, 1) := by decide +kernel
theorem d_Md_carton_105 : decode b_Md_carton 105 = .ok (.aload_n 0, 1) := by decide +kernel
theorem d_Md_carton_106 : decode b_Md_carton 106 = .ok (.getfield 16, 3) := by decide +kernel
theorem d_Md_carton_109 : decode b_Md_carton 109 = .ok (.aload_n 0, 1) := by decide +kernel
theorem d_Md_carton_110 : decode b_Md_carton 110 = .ok (.getfield 105, 3) := by decide +kernel
theorem d_Md_carton_113 : decode b_Md_carton 113 = .ok (.iload_n 3, 1) := by decide +kernel
theorem d_Md_carton_114 : decode b_Md_carton 114 = .ok (.iastore, 1) := by decide +kernel
theorem d_Md_carton_115 : decode b_Md_carton 115 = .ok (.aload_n 0, 1) := by decide +kernel
theorem d_Md_carton_116 : decode b_Md_carton 116 = .ok (.getfield 19, 3) := by decide +kernel
theorem d_Md_carton_119 : decode b_Md_carton 119 = .ok (.aload_n 0, 1) := by decide +kernel
theorem d_Md_carton_120 : decode b_Md_carton 120 = .ok (.getfield 105, 3) := by decide +kernel
theorem d_Md_carton_123 : decode b_Md_carton 123 = .ok (.iload 4, 2) := by decide +kernel
theorem d_Md_carton_125 : decode b_Md_carton 125 = .ok (.iastore, 1) := by decide +kernel
theorem d_Md_carton_126 : decode b_Md_carton 126 = .ok (.aload_n 0, 1) := by decide +kernel
theorem d_Md_carton_127 : decode b_Md_carton 127 = .ok (.getfield 22, 3) := by decide +kernel
theorem d_Md_carton_130 : decode b_Md_carton 130 = .ok (.aload_n 0, 1) := by decide +kernel
theorem d_Md_carton_131 : decode b_Md_carton 131 = .ok (.getfield 105, 3) := by decide +kernel
theorem d_Md_carton_134 : decode b_Md_carton 134 = .ok (.iload 5, 2) := by decide +kernel
theorem d_Md_carton_136 : decode b_Md_carton 136 = .ok (.iastore, 1) := by decide +kernel
theorem d_Md_carton_137 : decode b_Md_carton 137 = .ok (.aload_n 0, 1) := by decide +kernel
theorem d_Md_carton_138 : decode b_Md_carton 138 = .ok (.dup, 1) := by decide +kernel
theorem d_Md_carton_139 : decode b_Md_carton 139 = .ok (.getfield 105, 3) := by decide +kernel
theorem d_Md_carton_142 : decode b_Md_carton 142 = .ok (.iconst 1, 1) := by decide +kernel
theorem d_Md_carton_143 : decode b_Md_carton 143 = .ok (.iadd, 1) := by decide +kernel
theorem d_Md_carton_144 : decode b_Md_carton 144 = .ok (.putfield 105, 3) := by decide +kernel
theorem d_Md_carton_147 : decode b_Md_carton 147 = .ok (.aload_n 0, 1) := by decide +kernel
theorem d_Md_carton_148 : decode b_Md_carton 148 = .ok (.iconst 0, 1) := by decide +kernel
theorem d_Md_carton_149 : decode b_Md_carton 149 = .ok (.putfield 108, 3) := by decide +kernel
theorem d_Md_carton_152 : decode b_Md_carton 152 = .ok (.aload_n 0, 1) := by decide +kernel
theorem d_Md_carton_153 : decode b_Md_carton 153 = .ok (.getfield 105, 3) := by decide +kernel
theorem d_Md_carton_156 : decode b_Md_carton 156 = .ok (.iconst 1, 1) := by decide +kernel
theorem d_Md_carton_157 : decode b_Md_carton 157 = .ok (.isub, 1) := by decide +kernel
theorem d_Md_carton_158 : decode b_Md_carton 158 = .ok (.ireturn, 1) := by decide +kernel
theorem d_Md_part_0 : decode b_Md_part 0 = .ok (.iload_n 1, 1) := by decide +kernel
theorem d_Md_part_1 : decode b_Md_part 1 = .ok (.invokestatic 100, 3) := by decide +kernel
theorem d_Md_part_4 : decode b_Md_part 4 = .ok (.ifCond .eq 43, 3) := by decide +kernel
theorem d_Md_part_7 : decode b_Md_part 7 = .ok (.iload_n 2, 1) := by decide +kernel
theorem d_Md_part_8 : decode b_Md_part 8 = .ok (.invokestatic 100, 3) := by decide +kernel
theorem d_Md_part_11 : decode b_Md_part 11 = .ok (.ifCond .eq 36, 3) := by decide +kernel
theorem d_Md_part_14 : decode b_Md_part 14 = .ok (.iload_n 3, 1) := by decide +kernel
theorem d_Md_part_15 : decode b_Md_part 15 = .ok (.invokestatic 100, 3) := by decide +kernel
theorem d_Md_part_18 : decode b_Md_part 18 = .ok (.ifCond .eq 29, 3) := by decide +kernel
theorem d_Md_part_21 : decode b_Md_part 21 = .ok (.iload 4, 2) := by decide +kernel
theorem d_Md_part_23 : decode b_Md_part 23 = .ok (.iconst 1, 1) := by decide +kernel
theorem d_Md_part_24 : decode b_Md_part 24 = .ok (.ldc 112, 2) := by decide +kernel
theorem d_Md_part_26 : decode b_Md_part 26 = .ok (.invokestatic 96, 3) := by decide +kernel
theorem d_Md_part_29 : decode b_Md_part 29 = .ok (.ifCond .eq 18, 3) := by decide +kernel
theorem d_Md_part_32 : decode b_Md_part 32 = .ok (.iload 5, 2) := by decide +kernel
theorem d_Md_part_34 : decode b_Md_part 34 = .ok (.iconst 0, 1) := by decide +kernel
theorem d_Md_part_35 : decode b_Md_part 35 = .ok (.bipush 50, 2) := by decide +kernel
theorem d_Md_part_37 : decode b_Md_part 37 = .ok (.invokestatic 96, 3) := by decide +kernel
theorem d_Md_part_40 : decode b_Md_part 40 = .ok (.ifCond .eq 7, 3) := by decide +kernel
theorem d_Md_part_43 : decode b_Md_part 43 = .ok (.iconst 1, 1) := by decide +kernel
theorem d_Md_part_44 : decode b_Md_part 44 = .ok (.goto 4, 3) := by decide +kernel
theorem d_Md_part_47 : decode b_Md_part 47 = .ok (.iconst 0, 1) := by decide +kernel
theorem d_Md_part_48 : decode b_Md_part 48 = .ok (.istore 6, 2) := by decide +kernel
theorem d_Md_part_50 : decode b_Md_part 50 = .ok (.aload_n 0, 1) := by decide +kernel
theorem d_Md_part_51 : decode b_Md_part 51 = .ok (.iload 6, 2) := by decide +kernel
theorem d_Md_part_53 : decode b_Md_part 53 = .ok (.ifCond .ne 7, 3) := by decide +kernel
theorem d_Md_part_56 : decode b_Md_part 56 = .ok (.iconst 1, 1) := by decide +kernel
theorem d_Md_part_57 : decode b_Md_part 57 = .ok (.goto 17, 3) := by decide +kernel
theorem d_Md_part_60 : decode b_Md_part 60 = .ok (.aload_n 0, 1) := by decide +kernel
theorem d_Md_part_61 : decode b_Md_part 61 = .ok (.getfield 113, 3) := by decide +kernel
theorem d_Md_part_64 : decode b_Md_part 64 = .ok (.bipush 8, 2) := by decide +kernel
theorem d_Md_part_66 : decode b_Md_part 66 = .ok (.if_icmp .ne 7, 3) := by decide +kernel
theorem d_Md_part_69 : decode b_Md_part 69 = .ok (.iconst 2, 1) := by decide +kernel
theorem d_Md_part_70 : decode b_Md_part 70 = .ok (.goto 4, 3) := by decide +kernel
theorem d_Md_part_73 : decode b_Md_part 73 = .ok (.iconst 0, 1) := by decide +kernel
theorem d_Md_part_74 : decode b_Md_part 74 = .ok (.putfield 93, 3) := by decide +kernel
theorem d_Md_part_77 : decode b_Md_part 77 = .ok (.aload_n 0, 1) := by decide +kernel
theorem d_Md_part_78 : decode b_Md_part 78 = .ok (.getfield 93, 3) := by decide +kernel
theorem d_Md_part_81 : decode b_Md_part 81 = .ok (.ifCond .le 5, 3) := by decide +kernel
theorem d_Md_part_84 : decode b_Md_part 84 = .ok (.iconst 0, 1) := by decide +kernel
theorem d_Md_part_85 : decode b_Md_part 85 = .ok (.ireturn, 1) := by decide +kernel
theorem d_Md_part_86 : decode b_Md_part 86 = .ok (.aload_n 0, 1) := by decide +kernel
theorem d_Md_part_87 : decode b_Md_part 87 = .ok (.getfield 25, 3) := by decide +kernel
theorem d_Md_part_90 : decode b_Md_part 90 = .ok (.aload_n 0, 1) := by decide +kernel
theorem d_Md_part_91 : decode b_Md_part 91 = .ok (.getfield 113, 3) := by decide +kernel
theorem d_Md_part_94 : decode b_Md_part 94 = .ok (.iload_n 1, 1) := by decide +kernel
theorem d_Md_part_95 : decode b_Md_part 95 = .ok (.iastore, 1) := by decide +kernel
theorem d_Md_part_96 : decode b_Md_part 96 = .ok (.aload_n 0, 1) := by decide +kernel
theorem d_Md_part_97 : decode b_Md_part 97 = .ok (.getfield 28, 3) := by decide +kernel
theorem d_Md_part_100 : decode b_Md_part 100 = .ok (.aload_n 0, 1) := by decide +kernel
theorem d_Md_part_101 : decode b_Md_part 101 = .ok (.getfield 113, 3) := by decide +kernel
theorem d_Md_part_104 : decode b_Md_part 104 = .ok (.iload_n 2, 1) := by decide +kernel
theorem d_Md_part_105 : decode b_Md_part 105 = .ok (.iastore, 1) := by decide +kernel
theorem d_Md_part_106 : decode b_Md_part 106 = .ok (.aload_n 0, 1) := by decide +kernel
theorem d_Md_part_107 : decode b_Md_part 107 = .ok (.getfield 31, 3) := by decide +kernel
theorem d_Md_part_110 : decode b_Md_part 110 = .ok (.aload_n 0, 1) := by decide +kernel
theorem d_Md_part_111 : decode b_Md_part 111 = .ok (.getfield 113, 3) := by decide +kernel
theorem d_Md_part_114 : decode b_Md_part 114 = .ok (.iload_n 3, 1) := by decide +kernel
theorem d_Md_part_115 : decode b_Md_part 115 = .ok (.iastore, 1) := by decide +kernel
theorem d_Md_part_116 : decode b_Md_part 116 = .ok (.aload_n 0, 1) := by decide +kernel
theorem d_Md_part_117 : decode b_Md_part 117 = .ok (.getfield 34, 3) := by decide +kernel
theorem d_Md_part_120 : decode b_Md_part 120 = .ok (.aload_n 0, 1) := by decide +kernel
theorem d_Md_part_121 : decode b_Md_part 121 = .ok (.getfield 113, 3) := by decide +kernel
theorem d_Md_part_124 : decode b_Md_part 124 = .ok (.iload 4, 2) := by decide +kernel
theorem d_Md_part_126 : decode b_Md_part 126 = .ok (.iastore, 1) := by decide +kernel
theorem d_Md_part_127 : decode b_Md_part 127 = .ok (.aload_n 0, 1) := by decide +kernel
theorem d_Md_part_128 : decode b_Md_part 128 = .ok (.getfield 37, 3) := by decide +kernel
theorem d_Md_part_131 : decode b_Md_part 131 = .ok (.aload_n 0, 1) := by decide +kernel
theorem d_Md_part_132 : decode b_Md_part 132 = .ok (.getfield 113, 3) := by decide +kernel
theorem d_Md_part_135 : decode b_Md_part 135 = .ok (.iload 5, 2) := by decide +kernel
theorem d_Md_part_137 : decode b_Md_part 137 = .ok (.iastore, 1) := by decide +kernel
theorem d_Md_part_138 : decode b_Md_part 138 = .ok (.aload_n 0, 1) := by decide +kernel
theorem d_Md_part_139 : decode b_Md_part 139 = .ok (.getfield 40, 3) := by decide +kernel
theorem d_Md_part_142 : decode b_Md_part 142 = .ok (.aload_n 0, 1) := by decide +kernel
theorem d_Md_part_143 : decode b_Md_part 143 = .ok (.getfield 113, 3) := by decide +kernel
theorem d_Md_part_146 : decode b_Md_part 146 = .ok (.iconst 0, 1) := by decide +kernel
theorem d_Md_part_147 : decode b_Md_part 147 = .ok (.bastore, 1) := by decide +kernel
theorem d_Md_part_148 : decode b_Md_part 148 = .ok (.aload_n 0, 1) := by decide +kernel
theorem d_Md_part_149 : decode b_Md_part 149 = .ok (.dup, 1) := by decide +kernel
theorem d_Md_part_150 : decode b_Md_part 150 = .ok (.getfield 113, 3) := by decide +kernel
theorem d_Md_part_153 : decode b_Md_part 153 = .ok (.iconst 1, 1) := by decide +kernel
theorem d_Md_part_154 : decode b_Md_part 154 = .ok (.iadd, 1) := by decide +kernel
theorem d_Md_part_155 : decode b_Md_part 155 = .ok (.putfield 113, 3) := by decide +kernel
theorem d_Md_part_158 : decode b_Md_part 158 = .ok (.aload_n 0, 1) := by decide +kernel
theorem d_Md_part_159 : decode b_Md_part 159 = .ok (.iconst 0, 1) := by decide +kernel
theorem d_Md_part_160 : decode b_Md_part 160 = .ok (.putfield 108, 3) := by decide +kernel
theorem d_Md_part_163 : decode b_Md_part 163 = .ok (.aload_n 0, 1) := by decide +kernel
theorem d_Md_part_164 : decode b_Md_part 164 = .ok (.getfield 113, 3) := by decide +kernel
theorem d_Md_part_167 : decode b_Md_part 167 = .ok (.iconst 1, 1) := by decide +kernel
theorem d_Md_part_168 : decode b_Md_part 168 = .ok (.isub, 1) := by decide +kernel
theorem d_Md_part_169 : decode b_Md_part 169 = .ok (.ireturn, 1) := by decide +kernel
theorem d_Md_fragile_0 : decode b_Md_fragile 0 = .ok (.aload_n 0, 1) := by decide +kernel
theorem d_Md_fragile_1 : decode b_Md_fragile 1 = .ok (.iload_n 1, 1) := by decide +kernel
theorem d_Md_fragile_2 : decode b_Md_fragile 2 = .ok (.iconst 0, 1) := by decide +kernel
theorem d_Md_fragile_3 : decode b_Md_fragile 3 = .ok (.aload_n 0, 1) := by decide +kernel
theorem d_Md_fragile_4 : decode b_Md_fragile 4 = .ok (.getfield 113, 3) := by decide +kernel
theorem d_Md_fragile_7 : decode b_Md_fragile 7 = .ok (.iconst 1, 1) := by decide +kernel
theorem d_Md_fragile_8 : decode b_Md_fragile 8 = .ok (.isub, 1) := by decide +kernel
theorem d_Md_fragile_9 : decode b_Md_fragile 9 = .ok (.invokestatic 96, 3) := by decide +kernel
theorem d_Md_fragile_12 : decode b_Md_fragile 12 = .ok (.ifCond .eq 7, 3) := by decide +kernel
theorem d_Md_fragile_15 : decode b_Md_fragile 15 = .ok (.iconst 0, 1) := by decide +kernel
theorem d_Md_fragile_16 : decode b_Md_fragile 16 = .ok (.goto 4, 3) := by decide +kernel
theorem d_Md_fragile_19 : decode b_Md_fragile 19 = .ok (.iconst 1, 1) := by decide +kernel
theorem d_Md_fragile_20 : decode b_Md_fragile 20 = .ok (.putfield 93, 3) := by decide +kernel
theorem d_Md_fragile_23 : decode b_Md_fragile 23 = .ok (.aload_n 0, 1) := by decide +kernel
theorem d_Md_fragile_24 : decode b_Md_fragile 24 = .ok (.getfield 93, 3) := by decide +kernel
theorem d_Md_fragile_27 : decode b_Md_fragile 27 = .ok (.ifCond .le 5, 3) := by decide +kernel
theorem d_Md_fragile_30 : decode b_Md_fragile 30 = .ok (.iconst 0, 1) := by decide +kernel
theorem d_Md_fragile_31 : decode b_Md_fragile 31 = .ok (.ireturn, 1) := by decide +kernel
theorem d_Md_fragile_32 : decode b_Md_fragile 32 = .ok (.aload_n 0, 1) := by decide +kernel
theorem d_Md_fragile_33 : decode b_Md_fragile 33 = .ok (.getfield 40, 3) := by decide +kernel
theorem d_Md_fragile_36 : decode b_Md_fragile 36 = .ok (.iload_n 1, 1) := by decide +kernel
theorem d_Md_fragile_37 : decode b_Md_fragile 37 = .ok (.baload, 1) := by decide +kernel
theorem d_Md_fragile_38 : decode b_Md_fragile 38 = .ok (.iload_n 2, 1) := by decide +kernel
theorem d_Md_fragile_39 : decode b_Md_fragile 39 = .ok (.if_icmp .eq 7, 3) := by decide +kernel
theorem d_Md_fragile_42 : decode b_Md_fragile 42 = .ok (.iconst 1, 1) := by decide +kernel
theorem d_Md_fragile_43 : decode b_Md_fragile 43 = .ok (.goto 4, 3) := by decide +kernel
theorem d_Md_fragile_46 : decode b_Md_fragile 46 = .ok (.iconst 0, 1) := by decide +kernel
theorem d_Md_fragile_47 : decode b_Md_fragile 47 = .ok (.istore_n 3, 1) := by decide +kernel
theorem d_Md_fragile_48 : decode b_Md_fragile 48 = .ok (.aload_n 0, 1) := by decide +kernel
theorem d_Md_fragile_49 : decode b_Md_fragile 49 = .ok (.getfield 40, 3) := by decide +kernel
theorem d_Md_fragile_52 : decode b_Md_fragile 52 = .ok (.iload_n 1, 1) := by decide +kernel
theorem d_Md_fragile_53 : decode b_Md_fragile 53 = .ok (.iload_n 2, 1) := by decide +kernel
theorem d_Md_fragile_54 : decode b_Md_fragile 54 = .ok (.bastore, 1) := by decide +kernel
theorem d_Md_fragile_55 : decode b_Md_fragile 55 = .ok (.aload_n 0, 1) := by decide +kernel
theorem d_Md_fragile_56 : decode b_Md_fragile 56 = .ok (.aload_n 0, 1) := by decide +kernel
theorem d_Md_fragile_57 : decode b_Md_fragile 57 = .ok (.getfield 108, 3) := by decide +kernel
theorem d_Md_fragile_60 : decode b_Md_fragile 60 = .ok (.ifCond .eq 11, 3) := by decide +kernel
theorem d_Md_fragile_63 : decode b_Md_fragile 63 = .ok (.iload_n 3, 1) := by decide +kernel
theorem d_Md_fragile_64 : decode b_Md_fragile 64 = .ok (.ifCond .ne 7, 3) := by decide +kernel
theorem d_Md_fragile_67 : decode b_Md_fragile 67 = .ok (.iconst 1, 1) := by decide +kernel
theorem d_Md_fragile_68 : decode b_Md_fragile 68 = .ok (.goto 4, 3) := by decide +kernel
theorem d_Md_fragile_71 : decode b_Md_fragile 71 = .ok (.iconst 0, 1) := by decide +kernel
theorem d_Md_fragile_72 : decode b_Md_fragile 72 = .ok (.putfield 108, 3) := by decide +kernel
theorem d_Md_fragile_75 : decode b_Md_fragile 75 = .ok (.iload_n 3, 1) := by decide +kernel
theorem d_Md_fragile_76 : decode b_Md_fragile 76 = .ok (.ireturn, 1) := by decide +kernel
theorem d_Md_has_0 : decode b_Md_has 0 = .ok (.iload_n 1, 1) := by decide +kernel
theorem d_Md_has_1 : decode b_Md_has 1 = .ok (.iload_n 2, 1) := by decide +kernel
theorem d_Md_has_2 : decode b_Md_has 2 = .ok (.ishr, 1) := by decide +kernel
theorem d_Md_has_3 : decode b_Md_has 3 = .ok (.iconst 1, 1) := by decide +kernel
theorem d_Md_has_4 : decode b_Md_has 4 = .ok (.iand, 1) := by decide +kernel
theorem d_Md_has_5 : decode b_Md_has 5 = .ok (.iconst 1, 1) := by decide +kernel
theorem d_Md_has_6 : decode b_Md_has 6 = .ok (.if_icmp .ne 7, 3) := by decide +kernel
theorem d_Md_has_9 : decode b_Md_has 9 = .ok (.iconst 1, 1) := by decide +kernel
theorem d_Md_has_10 : decode b_Md_has 10 = .ok (.goto 4, 3) := by decide +kernel
theorem d_Md_has_13 : decode b_Md_has 13 = .ok (.iconst 0, 1) := by decide +kernel
theorem d_Md_has_14 : decode b_Md_has 14 = .ok (.ireturn, 1) := by decide +kernel
theorem d_Md_byThickness_0 : decode b_Md_byThickness 0 = .ok (.iconst 0, 1) := by decide +kernel
theorem d_Md_byThickness_1 : decode b_Md_byThickness 1 = .ok (.istore_n 2, 1) := by decide +kernel
theorem d_Md_byThickness_2 : decode b_Md_byThickness 2 = .ok (.iload_n 2, 1) := by decide +kernel
theorem d_Md_byThickness_3 : decode b_Md_byThickness 3 = .ok (.aload_n 0, 1) := by decide +kernel
theorem d_Md_byThickness_4 : decode b_Md_byThickness 4 = .ok (.getfield 113, 3) := by decide +kernel
theorem d_Md_byThickness_7 : decode b_Md_byThickness 7 = .ok (.if_icmp .ge 82, 3) := by decide +kernel
theorem d_Md_byThickness_10 : decode b_Md_byThickness 10 = .ok (.iconst 0, 1) := by decide +kernel
theorem d_Md_byThickness_11 : decode b_Md_byThickness 11 = .ok (.istore_n 3, 1) := by decide +kernel
theorem d_Md_byThickness_12 : decode b_Md_byThickness 12 = .ok (.iconst 0, 1) := by decide +kernel
theorem d_Md_byThickness_13 : decode b_Md_byThickness 13 = .ok (.istore 4, 2) := by decide +kernel
theorem d_Md_byThickness_15 : decode b_Md_byThickness 15 = .ok (.iload 4, 2) := by decide +kernel
theorem d_Md_byThickness_17 : decode b_Md_byThickness 17 = .ok (.aload_n 0, 1) := by decide +kernel
theorem d_Md_byThickness_18 : decode b_Md_byThickness 18 = .ok (.getfield 113, 3) := by decide +kernel
theorem d_Md_byThickness_21 : decode b_Md_byThickness 21 = .ok (.if_icmp .ge 55, 3) := by decide +kernel
theorem d_Md_byThickness_24 : decode b_Md_byThickness 24 = .ok (.iload_n 3, 1) := by decide +kernel
theorem d_Md_byThickness_25 : decode b_Md_byThickness 25 = .ok (.aload_n 0, 1) := by decide +kernel
theorem d_Md_byThickness_26 : decode b_Md_byThickness 26 = .ok (.getfield 31, 3) := by decide +kernel
theorem d_Md_byThickness_29 : decode b_Md_byThickness 29 = .ok (.iload 4, 2) := by decide +kernel
theorem d_Md_byThickness_31 : decode b_Md_byThickness 31 = .ok (.iaload, 1) := by decide +kernel
theorem d_Md_byThickness_32 : decode b_Md_byThickness 32 = .ok (.aload_n 0, 1) := by decide +kernel
theorem d_Md_byThickness_33 : decode b_Md_byThickness 33 = .ok (.getfield 31, 3) := by decide +kernel
theorem d_Md_byThickness_36 : decode b_Md_byThickness 36 = .ok (.iload_n 2, 1) := by decide +kernel
theorem d_Md_byThickness_37 : decode b_Md_byThickness 37 = .ok (.iaload, 1) := by decide +kernel
theorem d_Md_byThickness_38 : decode b_Md_byThickness 38 = .ok (.if_icmp .gt 25, 3) := by decide +kernel
theorem d_Md_byThickness_41 : decode b_Md_byThickness 41 = .ok (.aload_n 0, 1) := by decide +kernel
theorem d_Md_byThickness_42 : decode b_Md_byThickness 42 = .ok (.getfield 31, 3) := by decide +kernel
theorem d_Md_byThickness_45 : decode b_Md_byThickness 45 = .ok (.iload 4, 2) := by decide +kernel
theorem d_Md_byThickness_47 : decode b_Md_byThickness 47 = .ok (.iaload, 1) := by decide +kernel
theorem d_Md_byThickness_48 : decode b_Md_byThickness 48 = .ok (.aload_n 0, 1) := by decide +kernel
theorem d_Md_byThickness_49 : decode b_Md_byThickness 49 = .ok (.getfield 31, 3) := by decide +kernel
theorem d_Md_byThickness_52 : decode b_Md_byThickness 52 = .ok (.iload_n 2, 1) := by decide +kernel
theorem d_Md_byThickness_53 : decode b_Md_byThickness 53 = .ok (.iaload, 1) := by decide +kernel
theorem d_Md_byThickness_54 : decode b_Md_byThickness 54 = .ok (.if_icmp .ne 13, 3) := by decide +kernel
theorem d_Md_byThickness_57 : decode b_Md_byThickness 57 = .ok (.iload 4, 2) := by decide +kernel
theorem d_Md_byThickness_59 : decode b_Md_byThickness 59 = .ok (.iload_n 2, 1) := by decide +kernel
theorem d_Md_byThickness_60 : decode b_Md_byThickness 60 = .ok (.if_icmp .ge 7, 3) := by decide +kernel
theorem d_Md_byThickness_63 : decode b_Md_byThickness 63 = .ok (.iconst 1, 1) := by decide +kernel
theorem d_Md_byThickness_64 : decode b_Md_byThickness 64 = .ok (.goto 4, 3) := by decide +kernel
theorem d_Md_byThickness_67 : decode b_Md_byThickness 67 = .ok (.iconst 0, 1) := by decide +kernel
theorem d_Md_byThickness_68 : decode b_Md_byThickness 68 = .ok (.iadd, 1) := by decide +kernel
theorem d_Md_byThickness_69 : decode b_Md_byThickness 69 = .ok (.istore_n 3, 1) := by decide +kernel
theorem d_Md_byThickness_70 : decode b_Md_byThickness 70 = .ok (.iinc 4 1, 3) := by decide +kernel
theorem d_Md_byThickness_73 : decode b_Md_byThickness 73 = .ok (.goto (-58), 3) := by decide +kernel
theorem d_Md_byThickness_76 : decode b_Md_byThickness 76 = .ok (.iload_n 3, 1) := by decide +kernel
theorem d_Md_byThickness_77 : decode b_Md_byThickness 77 = .ok (.iload_n 1, 1) := by decide +kernel
theorem d_Md_byThickness_78 : decode b_Md_byThickness 78 = .ok (.if_icmp .ne 5, 3) := by decide +kernel
theorem d_Md_byThickness_81 : decode b_Md_byThickness 81 = .ok (.iload_n 2, 1) := by decide +kernel
theorem d_Md_byThickness_82 : decode b_Md_byThickness 82 = .ok (.ireturn, 1) := by decide +kernel
theorem d_Md_byThickness_83 : decode b_Md_byThickness 83 = .ok (.iinc 2 1, 3) := by decide +kernel
theorem d_Md_byThickness_86 : decode b_Md_byThickness 86 = .ok (.goto (-84), 3) := by decide +kernel
theorem d_Md_byThickness_89 : decode b_Md_byThickness 89 = .ok (.iconst (-1), 1) := by decide +kernel
theorem d_Md_byThickness_90 : decode b_Md_byThickness 90 = .ok (.ireturn, 1) := by decide +kernel
theorem d_Md_place_0 : decode b_Md_place 0 = .ok (.iconst 0, 1) := by decide +kernel
theorem d_Md_place_1 : decode b_Md_place 1 = .ok (.istore_n 3, 1) := by decide +kernel
theorem d_Md_place_2 : decode b_Md_place 2 = .ok (.iload_n 3, 1) := by decide +kernel
theorem d_Md_place_3 : decode b_Md_place 3 = .ok (.aload_n 0, 1) := by decide +kernel
theorem d_Md_place_4 : decode b_Md_place 4 = .ok (.getfield 116, 3) := by decide +kernel
theorem d_Md_place_7 : decode b_Md_place 7 = .ok (.if_icmp .ge 36, 3) := by decide +kernel
theorem d_Md_place_10 : decode b_Md_place 10 = .ok (.aload_n 0, 1) := by decide +kernel
theorem d_Md_place_11 : decode b_Md_place 11 = .ok (.getfield 50, 3) := by decide +kernel
theorem d_Md_place_14 : decode b_Md_place 14 = .ok (.iload_n 3, 1) := by decide +kernel
theorem d_Md_place_15 : decode b_Md_place 15 = .ok (.iaload, 1) := by decide +kernel
theorem d_Md_place_16 : decode b_Md_place 16 = .ok (.aload_n 0, 1) := by decide +kernel
theorem d_Md_place_17 : decode b_Md_place 17 = .ok (.getfield 89, 3) := by decide +kernel
theorem d_Md_place_20 : decode b_Md_place 20 = .ok (.iadd, 1) := by decide +kernel
theorem d_Md_place_21 : decode b_Md_place 21 = .ok (.aload_n 0, 1) := by decide +kernel
theorem d_Md_place_22 : decode b_Md_place 22 = .ok (.getfield 25, 3) := by decide +kernel
theorem d_Md_place_25 : decode b_Md_place 25 = .ok (.iload_n 1, 1) := by decide +kernel
theorem d_Md_place_26 : decode b_Md_place 26 = .ok (.iaload, 1) := by decide +kernel
theorem d_Md_place_27 : decode b_Md_place 27 = .ok (.iadd, 1) := by decide +kernel
theorem d_Md_place_28 : decode b_Md_place 28 = .ok (.aload_n 0, 1) := by decide +kernel
theorem d_Md_place_29 : decode b_Md_place 29 = .ok (.getfield 7, 3) := by decide +kernel
theorem d_Md_place_32 : decode b_Md_place 32 = .ok (.iload_n 2, 1) := by decide +kernel
theorem d_Md_place_33 : decode b_Md_place 33 = .ok (.iaload, 1) := by decide +kernel
theorem d_Md_place_34 : decode b_Md_place 34 = .ok (.if_icmp .le 9, 3) := by decide +kernel
theorem d_Md_place_37 : decode b_Md_place 37 = .ok (.iinc 3 1, 3) := by decide +kernel
theorem d_Md_place_40 : decode b_Md_place 40 = .ok (.goto (-38), 3) := by decide +kernel
theorem d_Md_place_43 : decode b_Md_place 43 = .ok (.iload_n 3, 1) := by decide +kernel
theorem d_Md_place_44 : decode b_Md_place 44 = .ok (.aload_n 0, 1) := by decide +kernel
theorem d_Md_place_45 : decode b_Md_place 45 = .ok (.getfield 116, 3) := by decide +kernel
theorem d_Md_place_48 : decode b_Md_place 48 = .ok (.if_icmp .ne 62, 3) := by decide +kernel
theorem d_Md_place_51 : decode b_Md_place 51 = .ok (.aload_n 0, 1) := by decide +kernel
theorem d_Md_place_52 : decode b_Md_place 52 = .ok (.getfield 50, 3) := by decide +kernel
theorem d_Md_place_55 : decode b_Md_place 55 = .ok (.iload_n 3, 1) := by decide +kernel
theorem d_Md_place_56 : decode b_Md_place 56 = .ok (.aload_n 0, 1) := by decide +kernel
theorem d_Md_place_57 : decode b_Md_place 57 = .ok (.getfield 89, 3) := by decide +kernel
theorem d_Md_place_60 : decode b_Md_place 60 = .ok (.ineg, 1) := by decide +kernel
theorem d_Md_place_61 : decode b_Md_place 61 = .ok (.iastore, 1) := by decide +kernel
theorem d_Md_place_62 : decode b_Md_place 62 = .ok (.aload_n 0, 1) := by decide +kernel
theorem d_Md_place_63 : decode b_Md_place 63 = .ok (.getfield 53, 3) := by decide +kernel
theorem d_Md_place_66 : decode b_Md_place 66 = .ok (.iload_n 3, 1) := by decide +kernel
theorem d_Md_place_67 : decode b_Md_place 67 = .ok (.aload_n 0, 1) := by decide +kernel
theorem d_Md_place_68 : decode b_Md_place 68 = .ok (.getfield 31, 3) := by decide +kernel
theorem d_Md_place_71 : decode b_Md_place 71 = .ok (.iload_n 1, 1) := by decide +kernel
theorem d_Md_place_72 : decode b_Md_place 72 = .ok (.iaload, 1) := by decide +kernel
theorem d_Md_place_73 : decode b_Md_place 73 = .ok (.iastore, 1) := by decide +kernel
theorem d_Md_place_74 : decode b_Md_place 74 = .ok (.aload_n 0, 1) := by decide +kernel
theorem d_Md_place_75 : decode b_Md_place 75 = .ok (.getfield 56, 3) := by decide +kernel
theorem d_Md_place_78 : decode b_Md_place 78 = .ok (.iload_n 3, 1) := by decide +kernel
theorem d_Md_place_79 : decode b_Md_place 79 = .ok (.iconst 0, 1) := by decide +kernel
theorem d_Md_place_80 : decode b_Md_place 80 = .ok (.iastore, 1) := by decide +kernel
theorem d_Md_place_81 : decode b_Md_place 81 = .ok (.aload_n 0, 1) := by decide +kernel
theorem d_Md_place_82 : decode b_Md_place 82 = .ok (.getfield 59, 3) := by decide +kernel
theorem d_Md_place_85 : decode b_Md_place 85 = .ok (.iload_n 3, 1) := by decide +kernel
theorem d_Md_place_86 : decode b_Md_place 86 = .ok (.aload_n 0, 1) := by decide +kernel
theorem d_Md_place_87 : decode b_Md_place 87 = .ok (.getfield 37, 3) := by decide +kernel
theorem d_Md_place_90 : decode b_Md_place 90 = .ok (.iload_n 1, 1) := by decide +kernel
theorem d_Md_place_91 : decode b_Md_place 91 = .ok (.iaload, 1) := by decide +kernel
theorem d_Md_place_92 : decode b_Md_place 92 = .ok (.iastore, 1) := by decide +kernel
theorem d_Md_place_93 : decode b_Md_place 93 = .ok (.aload_n 0, 1) := by decide +kernel
theorem d_Md_place_94 : decode b_Md_place 94 = .ok (.getfield 62, 3) := by decide +kernel
theorem d_Md_place_97 : decode b_Md_place 97 = .ok (.iload_n 3, 1) := by decide +kernel
theorem d_Md_place_98 : decode b_Md_place 98 = .ok (.iconst 0, 1) := by decide +kernel
theorem d_Md_place_99 : decode b_Md_place 99 = .ok (.bastore, 1) := by decide +kernel
theorem d_Md_place_100 : decode b_Md_place 100 = .ok (.aload_n 0, 1) := by decide +kernel
theorem d_Md_place_101 : decode b_Md_place 101 = .ok (.dup, 1) := by decide +kernel
theorem d_Md_place_102 : decode b_Md_place 102 = .ok (.getfield 116, 3) := by decide +kernel
theorem d_Md_place_105 : decode b_Md_place 105 = .ok (.iconst 1, 1) := by decide +kernel
theorem d_Md_place_106 : decode b_Md_place 106 = .ok (.iadd, 1) := by decide +kernel
theorem d_Md_place_107 : decode b_Md_place 107 = .ok (.putfield 116, 3) := by decide +kernel
theorem d_Md_place_110 : decode b_Md_place 110 = .ok (.aload_n 0, 1) := by decide +kernel
theorem d_Md_place_111 : decode b_Md_place 111 = .ok (.getfield 44, 3) := by decide +kernel
theorem d_Md_place_114 : decode b_Md_place 114 = .ok (.iload_n 1, 1) := by decide +kernel
theorem d_Md_place_115 : decode b_Md_place 115 = .ok (.iload_n 3, 1) := by decide +kernel
theorem d_Md_place_116 : decode b_Md_place 116 = .ok (.iastore, 1) := by decide +kernel
theorem d_Md_place_117 : decode b_Md_place 117 = .ok (.aload_n 0, 1) := by decide +kernel
theorem d_Md_place_118 : decode b_Md_place 118 = .ok (.getfield 47, 3) := by decide +kernel
theorem d_Md_place_121 : decode b_Md_place 121 = .ok (.iload_n 1, 1) := by decide +kernel
theorem d_Md_place_122 : decode b_Md_place 122 = .ok (.aload_n 0, 1) := by decide +kernel
theorem d_Md_place_123 : decode b_Md_place 123 = .ok (.getfield 50, 3) := by decide +kernel
theorem d_Md_place_126 : decode b_Md_place 126 = .ok (.iload_n 3, 1) := by decide +kernel
theorem d_Md_place_127 : decode b_Md_place 127 = .ok (.iaload, 1) := by decide +kernel
theorem d_Md_place_128 : decode b_Md_place 128 = .ok (.aload_n 0, 1) := by decide +kernel
theorem d_Md_place_129 : decode b_Md_place 129 = .ok (.getfield 89, 3) := by decide +kernel
theorem d_Md_place_132 : decode b_Md_place 132 = .ok (.iadd, 1) := by decide +kernel
theorem d_Md_place_133 : decode b_Md_place 133 = .ok (.iastore, 1) := by decide +kernel
theorem d_Md_place_134 : decode b_Md_place 134 = .ok (.aload_n 0, 1) := by decide +kernel
theorem d_Md_place_135 : decode b_Md_place 135 = .ok (.getfield 50, 3) := by decide +kernel
theorem d_Md_place_138 : decode b_Md_place 138 = .ok (.iload_n 3, 1) := by decide +kernel
theorem d_Md_place_139 : decode b_Md_place 139 = .ok (.aload_n 0, 1) := by decide +kernel
theorem d_Md_place_140 : decode b_Md_place 140 = .ok (.getfield 47, 3) := by decide +kernel
theorem d_Md_place_143 : decode b_Md_place 143 = .ok (.iload_n 1, 1) := by decide +kernel
theorem d_Md_place_144 : decode b_Md_place 144 = .ok (.iaload, 1) := by decide +kernel
theorem d_Md_place_145 : decode b_Md_place 145 = .ok (.aload_n 0, 1) := by decide +kernel
theorem d_Md_place_146 : decode b_Md_place 146 = .ok (.getfield 25, 3) := by decide +kernel
theorem d_Md_place_149 : decode b_Md_place 149 = .ok (.iload_n 1, 1) := by decide +kernel
theorem d_Md_place_150 : decode b_Md_place 150 = .ok (.iaload, 1) := by decide +kernel
theorem d_Md_place_151 : decode b_Md_place 151 = .ok (.iadd, 1) := by decide +kernel
theorem d_Md_place_152 : decode b_Md_place 152 = .ok (.iastore, 1) := by decide +kernel
theorem d_Md_place_153 : decode b_Md_place 153 = .ok (.aload_n 0, 1) := by decide +kernel
theorem d_Md_place_154 : decode b_Md_place 154 = .ok (.getfield 56, 3) := by decide +kernel
theorem d_Md_place_157 : decode b_Md_place 157 = .ok (.iload_n 3, 1) := by decide +kernel
theorem d_Md_place_158 : decode b_Md_place 158 = .ok (.dup2, 1) := by decide +kernel
theorem d_Md_place_159 : decode b_Md_place 159 = .ok (.iaload, 1) := by decide +kernel
theorem d_Md_place_160 : decode b_Md_place 160 = .ok (.aload_n 0, 1) := by decide +kernel
theorem d_Md_place_161 : decode b_Md_place 161 = .ok (.getfield 34, 3) := by decide +kernel
theorem d_Md_place_164 : decode b_Md_place 164 = .ok (.iload_n 1, 1) := by decide +kernel
theorem d_Md_place_165 : decode b_Md_place 165 = .ok (.iaload, 1) := by decide +kernel
theorem d_Md_place_166 : decode b_Md_place 166 = .ok (.iadd, 1) := by decide +kernel
theorem d_Md_place_167 : decode b_Md_place 167 = .ok (.iastore, 1) := by decide +kernel
theorem d_Md_place_168 : decode b_Md_place 168 = .ok (.aload_n 0, 1) := by decide +kernel
theorem d_Md_place_169 : decode b_Md_place 169 = .ok (.getfield 59, 3) := by decide +kernel
theorem d_Md_place_172 : decode b_Md_place 172 = .ok (.iload_n 3, 1) := by decide +kernel
theorem d_Md_place_173 : decode b_Md_place 173 = .ok (.aload_n 0, 1) := by decide +kernel
theorem d_Md_place_174 : decode b_Md_place 174 = .ok (.getfield 37, 3) := by decide +kernel
theorem d_Md_place_177 : decode b_Md_place 177 = .ok (.iload_n 1, 1) := by decide +kernel
theorem d_Md_place_178 : decode b_Md_place 178 = .ok (.iaload, 1) := by decide +kernel
theorem d_Md_place_179 : decode b_Md_place 179 = .ok (.aload_n 0, 1) := by decide +kernel
theorem d_Md_place_180 : decode b_Md_place 180 = .ok (.getfield 59, 3) := by decide +kernel
theorem d_Md_place_183 : decode b_Md_place 183 = .ok (.iload_n 3, 1) := by decide +kernel
theorem d_Md_place_184 : decode b_Md_place 184 = .ok (.iaload, 1) := by decide +kernel
theorem d_Md_place_185 : decode b_Md_place 185 = .ok (.if_icmp .ge 12, 3) := by decide +kernel
theorem d_Md_place_188 : decode b_Md_place 188 = .ok (.aload_n 0, 1) := by decide +kernel
theorem d_Md_place_189 : decode b_Md_place 189 = .ok (.getfield 37, 3) := by decide +kernel
theorem d_Md_place_192 : decode b_Md_place 192 = .ok (.iload_n 1, 1) := by decide +kernel
theorem d_Md_place_193 : decode b_Md_place 193 = .ok (.iaload, 1) := by decide +kernel
theorem d_Md_place_194 : decode b_Md_place 194 = .ok (.goto 9, 3) := by decide +kernel
theorem d_Md_place_197 : decode b_Md_place 197 = .ok (.aload_n 0, 1) := by decide +kernel
theorem d_Md_place_198 : decode b_Md_place 198 = .ok (.getfield 59, 3) := by decide +kernel
theorem d_Md_place_201 : decode b_Md_place 201 = .ok (.iload_n 3, 1) := by decide +kernel
theorem d_Md_place_202 : decode b_Md_place 202 = .ok (.iaload, 1) := by decide +kernel
theorem d_Md_place_203 : decode b_Md_place 203 = .ok (.iastore, 1) := by decide +kernel
theorem d_Md_place_204 : decode b_Md_place 204 = .ok (.aload_n 0, 1) := by decide +kernel
theorem d_Md_place_205 : decode b_Md_place 205 = .ok (.getfield 62, 3) := by decide +kernel
theorem d_Md_place_208 : decode b_Md_place 208 = .ok (.iload_n 3, 1) := by decide +kernel
theorem d_Md_place_209 : decode b_Md_place 209 = .ok (.aload_n 0, 1) := by decide +kernel
theorem d_Md_place_210 : decode b_Md_place 210 = .ok (.getfield 62, 3) := by decide +kernel
theorem d_Md_place_213 : decode b_Md_place 213 = .ok (.iload_n 3, 1) := by decide +kernel
theorem d_Md_place_214 : decode b_Md_place 214 = .ok (.baload, 1) := by decide +kernel
theorem d_Md_place_215 : decode b_Md_place 215 = .ok (.ifCond .ne 12, 3) := by decide +kernel
theorem d_Md_place_218 : decode b_Md_place 218 = .ok (.aload_n 0, 1) := by decide +kernel
theorem d_Md_place_219 : decode b_Md_place 219 = .ok (.getfield 40, 3) := by decide +kernel
theorem d_Md_place_222 : decode b_Md_place 222 = .ok (.iload_n 1, 1) := by decide +kernel
theorem d_Md_place_223 : decode b_Md_place 223 = .ok (.baload, 1) := by decide +kernel
theorem d_Md_place_224 : decode b_Md_place 224 = .ok (.ifCond .eq 7, 3) := by decide +kernel
theorem d_Md_place_227 : decode b_Md_place 227 = .ok (.iconst 1, 1) := by decide +kernel
theorem d_Md_place_228 : decode b_Md_place 228 = .ok (.goto 4, 3) := by decide +kernel
theorem d_Md_place_231 : decode b_Md_place 231 = .ok (.iconst 0, 1) := by decide +kernel
theorem d_Md_place_232 : decode b_Md_place 232 = .ok (.bastore, 1) := by decide +kernel
theorem d_Md_place_233 : decode b_Md_place 233 = .ok (.return_, 1) := by decide +kernel
theorem d_Md_pack_0 : decode b_Md_pack 0 = .ok (.aload_n 0, 1) := by decide +kernel
theorem d_Md_pack_1 : decode b_Md_pack 1 = .ok (.iconst 0, 1) := by decide +kernel
theorem d_Md_pack_2 : decode b_Md_pack 2 = .ok (.putfield 116, 3) := by decide +kernel
theorem d_Md_pack_5 : decode b_Md_pack 5 = .ok (.iconst 1, 1) := by decide +kernel
theorem d_Md_pack_6 : decode b_Md_pack 6 = .ok (.istore_n 3, 1) := by decide +kernel
theorem d_Md_pack_7 : decode b_Md_pack 7 = .ok (.iconst 0, 1) := by decide +kernel
theorem d_Md_pack_8 : decode b_Md_pack 8 = .ok (.istore 4, 2) := by decide +kernel
theorem d_Md_pack_10 : decode b_Md_pack 10 = .ok (.iconst 0, 1) := by decide +kernel
theorem d_Md_pack_11 : decode b_Md_pack 11 = .ok (.istore 5, 2) := by decide +kernel
theorem d_Md_pack_13 : decode b_Md_pack 13 = .ok (.iload 5, 2) := by decide +kernel
theorem d_Md_pack_15 : decode b_Md_pack 15 = .ok (.aload_n 0, 1) := by decide +kernel
theorem d_Md_pack_16 : decode b_Md_pack 16 = .ok (.getfield 113, 3) := by decide +kernel
theorem d_Md_pack_19 : decode b_Md_pack 19 = .ok (.if_icmp .ge 88, 3) := by decide +kernel
theorem d_Md_pack_22 : decode b_Md_pack 22 = .ok (.aload_n 0, 1) := by decide +kernel
theorem d_Md_pack_23 : decode b_Md_pack 23 = .ok (.iload 5, 2) := by decide +kernel
theorem d_Md_pack_25 : decode b_Md_pack 25 = .ok (.invokevirtual 119, 3) := by decide +kernel
theorem d_Md_pack_28 : decode b_Md_pack 28 = .ok (.istore 6, 2) := by decide +kernel
theorem d_Md_pack_30 : decode b_Md_pack 30 = .ok (.aload_n 0, 1) := by decide +kernel
theorem d_Md_pack_31 : decode b_Md_pack 31 = .ok (.iload_n 1, 1) := by decide +kernel
theorem d_Md_pack_32 : decode b_Md_pack 32 = .ok (.iload 6, 2) := by decide +kernel
theorem d_Md_pack_34 : decode b_Md_pack 34 = .ok (.invokevirtual 123, 3) := by decide +kernel
theorem d_Md_pack_37 : decode b_Md_pack 37 = .ok (.ifCond .eq 64, 3) := by decide +kernel
theorem d_Md_pack_40 : decode b_Md_pack 40 = .ok (.iload_n 3, 1) := by decide +kernel
theorem d_Md_pack_41 : decode b_Md_pack 41 = .ok (.ifCond .eq 39, 3) := by decide +kernel
theorem d_Md_pack_44 : decode b_Md_pack 44 = .ok (.aload_n 0, 1) := by decide +kernel
theorem d_Md_pack_45 : decode b_Md_pack 45 = .ok (.getfield 25, 3) := by decide +kernel
theorem d_Md_pack_48 : decode b_Md_pack 48 = .ok (.iload 6, 2) := by decide +kernel
theorem d_Md_pack_50 : decode b_Md_pack 50 = .ok (.iaload, 1) := by decide +kernel
theorem d_Md_pack_51 : decode b_Md_pack 51 = .ok (.aload_n 0, 1) := by decide +kernel
theorem d_Md_pack_52 : decode b_Md_pack 52 = .ok (.getfield 7, 3) := by decide +kernel
theorem d_Md_pack_55 : decode b_Md_pack 55 = .ok (.iload_n 2, 1) := by decide +kernel
theorem d_Md_pack_56 : decode b_Md_pack 56 = .ok (.iaload, 1) := by decide +kernel
theorem d_Md_pack_57 : decode b_Md_pack 57 = .ok (.if_icmp .gt 23, 3) := by decide +kernel
theorem d_Md_pack_60 : decode b_Md_pack 60 = .ok (.aload_n 0, 1) := by decide +kernel
theorem d_Md_pack_61 : decode b_Md_pack 61 = .ok (.getfield 28, 3) := by decide +kernel
theorem d_Md_pack_64 : decode b_Md_pack 64 = .ok (.iload 6, 2) := by decide +kernel
theorem d_Md_pack_66 : decode b_Md_pack 66 = .ok (.iaload, 1) := by decide +kernel
theorem d_Md_pack_67 : decode b_Md_pack 67 = .ok (.aload_n 0, 1) := by decide +kernel
theorem d_Md_pack_68 : decode b_Md_pack 68 = .ok (.getfield 13, 3) := by decide +kernel
theorem d_Md_pack_71 : decode b_Md_pack 71 = .ok (.iload_n 2, 1) := by decide +kernel
theorem d_Md_pack_72 : decode b_Md_pack 72 = .ok (.iaload, 1) := by decide +kernel
theorem d_Md_pack_73 : decode b_Md_pack 73 = .ok (.if_icmp .gt 7, 3) := by decide +kernel
theorem d_Md_pack_76 : decode b_Md_pack 76 = .ok (.iconst 1, 1) := by decide +kernel
theorem d_Md_pack_77 : decode b_Md_pack 77 = .ok (.goto 4, 3) := by decide +kernel
theorem d_Md_pack_80 : decode b_Md_pack 80 = .ok (.iconst 0, 1) := by decide +kernel
theorem d_Md_pack_81 : decode b_Md_pack 81 = .ok (.istore_n 3, 1) := by decide +kernel
theorem d_Md_pack_82 : decode b_Md_pack 82 = .ok (.iload 4, 2) := by decide +kernel
theorem d_Md_pack_84 : decode b_Md_pack 84 = .ok (.aload_n 0, 1) := by decide +kernel
theorem d_Md_pack_85 : decode b_Md_pack 85 = .ok (.getfield 34, 3) := by decide +kernel
theorem d_Md_pack_88 : decode b_Md_pack 88 = .ok (.iload 6, 2) := by decide +kernel
theorem d_Md_pack_90 : decode b_Md_pack 90 = .ok (.iaload, 1) := by decide +kernel
theorem d_Md_pack_91 : decode b_Md_pack 91 = .ok (.iadd, 1) := by decide +kernel
theorem d_Md_pack_92 : decode b_Md_pack 92 = .ok (.istore 4, 2) := by decide +kernel
theorem d_Md_pack_94 : decode b_Md_pack 94 = .ok (.aload_n 0, 1) := by decide +kernel
theorem d_Md_pack_95 : decode b_Md_pack 95 = .ok (.iload 6, 2) := by decide +kernel
theorem d_Md_pack_97 : decode b_Md_pack 97 = .ok (.iload_n 2, 1) := by decide +kernel
theorem d_Md_pack_98 : decode b_Md_pack 98 = .ok (.invokevirtual 127, 3) := by decide +kernel
theorem d_Md_pack_101 : decode b_Md_pack 101 = .ok (.iinc 5 1, 3) := by decide +kernel
theorem d_Md_pack_104 : decode b_Md_pack 104 = .ok (.goto (-91), 3) := by decide +kernel
theorem d_Md_pack_107 : decode b_Md_pack 107 = .ok (.iconst 0, 1) := by decide +kernel
theorem d_Md_pack_108 : decode b_Md_pack 108 = .ok (.istore 5, 2) := by decide +kernel
theorem d_Md_pack_110 : decode b_Md_pack 110 = .ok (.iconst 0, 1) := by decide +kernel
theorem d_Md_pack_111 : decode b_Md_pack 111 = .ok (.istore 6, 2) := by decide +kernel
theorem d_Md_pack_113 : decode b_Md_pack 113 = .ok (.iload 6, 2) := by decide +kernel
theorem d_Md_pack_115 : decode b_Md_pack 115 = .ok (.aload_n 0, 1) := by decide +kernel
theorem d_Md_pack_116 : decode b_Md_pack 116 = .ok (.getfield 116, 3) := by decide +kernel
theorem d_Md_pack_119 : decode b_Md_pack 119 = .ok (.if_icmp .ge 29, 3) := by decide +kernel
theorem d_Md_pack_122 : decode b_Md_pack 122 = .ok (.iload 5, 2) := by decide +kernel
theorem d_Md_pack_124 : decode b_Md_pack 124 = .ok (.aload_n 0, 1) := by decide +kernel
theorem d_Md_pack_125 : decode b_Md_pack 125 = .ok (.getfield 62, 3) := by decide +kernel
theorem d_Md_pack_128 : decode b_Md_pack 128 = .ok (.iload 6, 2) := by decide +kernel
theorem d_Md_pack_130 : decode b_Md_pack 130 = .ok (.baload, 1) := by decide +kernel
theorem d_Md_pack_131 : decode b_Md_pack 131 = .ok (.ifCond .eq 7, 3) := by decide +kernel
theorem d_Md_pack_134 : decode b_Md_pack 134 = .ok (.iconst 1, 1) := by decide +kernel
theorem d_Md_pack_135 : decode b_Md_pack 135 = .ok (.goto 4, 3) := by decide +kernel
theorem d_Md_pack_138 : decode b_Md_pack 138 = .ok (.iconst 0, 1) := by decide +kernel
theorem d_Md_pack_139 : decode b_Md_pack 139 = .ok (.iadd, 1) := by decide +kernel
theorem d_Md_pack_140 : decode b_Md_pack 140 = .ok (.istore 5, 2) := by decide +kernel
theorem d_Md_pack_142 : decode b_Md_pack 142 = .ok (.iinc 6 1, 3) := by decide +kernel
theorem d_Md_pack_145 : decode b_Md_pack 145 = .ok (.goto (-32), 3) := by decide +kernel
theorem d_Md_pack_148 : decode b_Md_pack 148 = .ok (.iload_n 3, 1) := by decide +kernel
theorem d_Md_pack_149 : decode b_Md_pack 149 = .ok (.ifCond .eq 37, 3) := by decide +kernel
theorem d_Md_pack_152 : decode b_Md_pack 152 = .ok (.aload_n 0, 1) := by decide +kernel
theorem d_Md_pack_153 : decode b_Md_pack 153 = .ok (.invokevirtual 131, 3) := by decide +kernel
theorem d_Md_pack_156 : decode b_Md_pack 156 = .ok (.aload_n 0, 1) := by decide +kernel
theorem d_Md_pack_157 : decode b_Md_pack 157 = .ok (.getfield 16, 3) := by decide +kernel
theorem d_Md_pack_160 : decode b_Md_pack 160 = .ok (.iload_n 2, 1) := by decide +kernel
theorem d_Md_pack_161 : decode b_Md_pack 161 = .ok (.iaload, 1) := by decide +kernel
theorem d_Md_pack_162 : decode b_Md_pack 162 = .ok (.if_icmp .gt 24, 3) := by decide +kernel
theorem d_Md_pack_165 : decode b_Md_pack 165 = .ok (.iload 4, 2) := by decide +kernel
theorem d_Md_pack_167 : decode b_Md_pack 167 = .ok (.aload_n 0, 1) := by decide +kernel
theorem d_Md_pack_168 : decode b_Md_pack 168 = .ok (.getfield 22, 3) := by decide +kernel
theorem d_Md_pack_171 : decode b_Md_pack 171 = .ok (.iload_n 2, 1) := by decide +kernel
theorem d_Md_pack_172 : decode b_Md_pack 172 = .ok (.iaload, 1) := by decide +kernel
theorem d_Md_pack_173 : decode b_Md_pack 173 = .ok (.if_icmp .gt 13, 3) := by decide +kernel
theorem d_Md_pack_176 : decode b_Md_pack 176 = .ok (.iload 5, 2) := by decide +kernel
theorem d_Md_pack_178 : decode b_Md_pack 178 = .ok (.iconst 2, 1) := by decide +kernel
theorem d_Md_pack_179 : decode b_Md_pack 179 = .ok (.if_icmp .ge 7, 3) := by decide +kernel
theorem d_Md_pack_182 : decode b_Md_pack 182 = .ok (.iconst 1, 1) := by decide +kernel
theorem d_Md_pack_183 : decode b_Md_pack 183 = .ok (.goto 4, 3) := by decide +kernel
theorem d_Md_pack_186 : decode b_Md_pack 186 = .ok (.iconst 0, 1) := by decide +kernel
theorem d_Md_pack_187 : decode b_Md_pack 187 = .ok (.ireturn, 1) := by decide +kernel
theorem d_Md_highOf_0 : decode b_Md_highOf 0 = .ok (.iconst 0, 1) := by decide +kernel
theorem d_Md_highOf_1 : decode b_Md_highOf 1 = .ok (.istore_n 1, 1) := by decide +kernel
theorem d_Md_highOf_2 : decode b_Md_highOf 2 = .ok (.iconst 0, 1) := by decide +kernel
theorem d_Md_highOf_3 : decode b_Md_highOf 3 = .ok (.istore_n 2, 1) := by decide +kernel
theorem d_Md_highOf_4 : decode b_Md_highOf 4 = .ok (.iload_n 2, 1) := by decide +kernel
theorem d_Md_highOf_5 : decode b_Md_highOf 5 = .ok (.aload_n 0, 1) := by decide +kernel
theorem d_Md_highOf_6 : decode b_Md_highOf 6 = .ok (.getfield 116, 3) := by decide +kernel
theorem d_Md_highOf_9 : decode b_Md_highOf 9 = .ok (.if_icmp .ge 18, 3) := by decide +kernel
theorem d_Md_highOf_12 : decode b_Md_highOf 12 = .ok (.iload_n 1, 1) := by decide +kernel
theorem d_Md_highOf_13 : decode b_Md_highOf 13 = .ok (.aload_n 0, 1) := by decide +kernel
theorem d_Md_highOf_14 : decode b_Md_highOf 14 = .ok (.getfield 53, 3) := by decide +kernel
theorem d_Md_highOf_17 : decode b_Md_highOf 17 = .ok (.iload_n 2, 1) := by decide +kernel
theorem d_Md_highOf_18 : decode b_Md_highOf 18 = .ok (.iaload, 1) := by decide +kernel
theorem d_Md_highOf_19 : decode b_Md_highOf 19 = .ok (.iadd, 1) := by decide +kernel
theorem d_Md_highOf_20 : decode b_Md_highOf 20 = .ok (.istore_n 1, 1) := by decide +kernel
theorem d_Md_highOf_21 : decode b_Md_highOf 21 = .ok (.iinc 2 1, 3) := by decide +kernel
theorem d_Md_highOf_24 : decode b_Md_highOf 24 = .ok (.goto (-20), 3) := by decide +kernel
theorem d_Md_highOf_27 : decode b_Md_highOf 27 = .ok (.iload_n 1, 1) := by decide +kernel
theorem d_Md_highOf_28 : decode b_Md_highOf 28 = .ok (.ireturn, 1) := by decide +kernel
theorem d_Md_fits_0 : decode b_Md_fits 0 = .ok (.aload_n 0, 1) := by decide +kernel
theorem d_Md_fits_1 : decode b_Md_fits 1 = .ok (.iload_n 1, 1) := by decide +kernel
theorem d_Md_fits_2 : decode b_Md_fits 2 = .ok (.iconst 0, 1) := by decide +kernel
theorem d_Md_fits_3 : decode b_Md_fits 3 = .ok (.aload_n 0, 1) := by decide +kernel
theorem d_Md_fits_4 : decode b_Md_fits 4 = .ok (.getfield 105, 3) := by decide +kernel
theorem d_Md_fits_7 : decode b_Md_fits 7 = .ok (.iconst 1, 1) := by decide +kernel
theorem d_Md_fits_8 : decode b_Md_fits 8 = .ok (.isub, 1) := by decide +kernel
theorem d_Md_fits_9 : decode b_Md_fits 9 = .ok (.invokestatic 96, 3) := by decide +kernel
theorem d_Md_fits_12 : decode b_Md_fits 12 = .ok (.ifCond .ne 7, 3) := by decide +kernel
theorem d_Md_fits_15 : decode b_Md_fits 15 = .ok (.iconst 1, 1) := by decide +kernel
theorem d_Md_fits_16 : decode b_Md_fits 16 = .ok (.goto 23, 3) := by decide +kernel
theorem d_Md_fits_19 : decode b_Md_fits 19 = .ok (.iload_n 2, 1) := by decide +kernel
theorem d_Md_fits_20 : decode b_Md_fits 20 = .ok (.iconst 1, 1) := by decide +kernel
theorem d_Md_fits_21 : decode b_Md_fits 21 = .ok (.if_icmp .lt 13, 3) := by decide +kernel
theorem d_Md_fits_24 : decode b_Md_fits 24 = .ok (.iload_n 2, 1) := by decide +kernel
theorem d_Md_fits_25 : decode b_Md_fits 25 = .ok (.iconst 1, 1) := by decide +kernel
theorem d_Md_fits_26 : decode b_Md_fits 26 = .ok (.aload_n 0, 1) := by decide +kernel
theorem d_Md_fits_27 : decode b_Md_fits 27 = .ok (.getfield 113, 3) := by decide +kernel
theorem d_Md_fits_30 : decode b_Md_fits 30 = .ok (.ishl, 1) := by decide +kernel
theorem d_Md_fits_31 : decode b_Md_fits 31 = .ok (.if_icmp .lt 7, 3) := by decide +kernel
theorem d_Md_fits_34 : decode b_Md_fits 34 = .ok (.iconst 2, 1) := by decide +kernel
theorem d_Md_fits_35 : decode b_Md_fits 35 = .ok (.goto 4, 3) := by decide +kernel
theorem d_Md_fits_38 : decode b_Md_fits 38 = .ok (.iconst 0, 1) := by decide +kernel
theorem d_Md_fits_39 : decode b_Md_fits 39 = .ok (.putfield 93, 3) := by decide +kernel
theorem d_Md_fits_42 : decode b_Md_fits 42 = .ok (.aload_n 0, 1) := by decide +kernel
theorem d_Md_fits_43 : decode b_Md_fits 43 = .ok (.getfield 93, 3) := by decide +kernel
theorem d_Md_fits_46 : decode b_Md_fits 46 = .ok (.ifCond .ne 16, 3) := by decide +kernel
theorem d_Md_fits_49 : decode b_Md_fits 49 = .ok (.aload_n 0, 1) := by decide +kernel
theorem d_Md_fits_50 : decode b_Md_fits 50 = .ok (.iload_n 2, 1) := by decide +kernel
theorem d_Md_fits_51 : decode b_Md_fits 51 = .ok (.iload_n 1, 1) := by decide +kernel
theorem d_Md_fits_52 : decode b_Md_fits 52 = .ok (.invokevirtual 135, 3) := by decide +kernel
theorem d_Md_fits_55 : decode b_Md_fits 55 = .ok (.ifCond .eq 7, 3) := by decide +kernel
theorem d_Md_fits_58 : decode b_Md_fits 58 = .ok (.iconst 1, 1) := by decide +kernel
theorem d_Md_fits_59 : decode b_Md_fits 59 = .ok (.goto 4, 3) := by decide +kernel
theorem d_Md_fits_62 : decode b_Md_fits 62 = .ok (.iconst 0, 1) := by decide +kernel
theorem d_Md_fits_63 : decode b_Md_fits 63 = .ok (.ireturn, 1) := by decide +kernel
theorem d_Md_findBoxes_0 : decode b_Md_findBoxes 0 = .ok (.iconst 1, 1) := by decide +kernel
theorem d_Md_findBoxes_1 : decode b_Md_findBoxes 1 = .ok (.istore_n 1, 1) := by decide +kernel
theorem d_Md_findBoxes_2 : decode b_Md_findBoxes 2 = .ok (.iload_n 1, 1) := by decide +kernel
theorem d_Md_findBoxes_3 : decode b_Md_findBoxes 3 = .ok (.iconst 1, 1) := by decide +kernel
theorem d_Md_findBoxes_4 : decode b_Md_findBoxes 4 = .ok (.aload_n 0, 1) := by decide +kernel
theorem d_Md_findBoxes_5 : decode b_Md_findBoxes 5 = .ok (.getfield 113, 3) := by decide +kernel
theorem d_Md_findBoxes_8 : decode b_Md_findBoxes 8 = .ok (.ishl, 1) := by decide +kernel
theorem d_Md_findBoxes_9 : decode b_Md_findBoxes 9 = .ok (.if_icmp .ge 68, 3) := by decide +kernel
theorem d_Md_findBoxes_12 : decode b_Md_findBoxes 12 = .ok (.iconst (-1), 1) := by decide +kernel
theorem d_Md_findBoxes_13 : decode b_Md_findBoxes 13 = .ok (.istore_n 2, 1) := by decide +kernel
theorem d_Md_findBoxes_14 : decode b_Md_findBoxes 14 = .ok (.iconst 0, 1) := by decide +kernel
theorem d_Md_findBoxes_15 : decode b_Md_findBoxes 15 = .ok (.istore_n 3, 1) := by decide +kernel
theorem d_Md_findBoxes_16 : decode b_Md_findBoxes 16 = .ok (.iload_n 3, 1) := by decide +kernel
theorem d_Md_findBoxes_17 : decode b_Md_findBoxes 17 = .ok (.aload_n 0, 1) := by decide +kernel
theorem d_Md_findBoxes_18 : decode b_Md_findBoxes 18 = .ok (.getfield 105, 3) := by decide +kernel
theorem d_Md_findBoxes_21 : decode b_Md_findBoxes 21 = .ok (.if_icmp .ge 43, 3) := by decide +kernel
theorem d_Md_findBoxes_24 : decode b_Md_findBoxes 24 = .ok (.aload_n 0, 1) := by decide +kernel
theorem d_Md_findBoxes_25 : decode b_Md_findBoxes 25 = .ok (.iload_n 1, 1) := by decide +kernel
theorem d_Md_findBoxes_26 : decode b_Md_findBoxes 26 = .ok (.iload_n 3, 1) := by decide +kernel
theorem d_Md_findBoxes_27 : decode b_Md_findBoxes 27 = .ok (.invokevirtual 135, 3) := by decide +kernel
theorem d_Md_findBoxes_30 : decode b_Md_findBoxes 30 = .ok (.ifCond .eq 26, 3) := by decide +kernel
theorem d_Md_findBoxes_33 : decode b_Md_findBoxes 33 = .ok (.iload_n 2, 1) := by decide +kernel
theorem d_Md_findBoxes_34 : decode b_Md_findBoxes 34 = .ok (.ifCond .lt 18, 3) := by decide +kernel
theorem d_Md_findBoxes_37 : decode b_Md_findBoxes 37 = .ok (.aload_n 0, 1) := by decide +kernel
theorem d_Md_findBoxes_38 : decode b_Md_findBoxes 38 = .ok (.getfield 19, 3) := by decide +kernel
theorem d_Md_findBoxes_41 : decode b_Md_findBoxes 41 = .ok (.iload_n 3, 1) := by decide +kernel
theorem d_Md_findBoxes_42 : decode b_Md_findBoxes 42 = .ok (.iaload, 1) := by decide +kernel
theorem d_Md_findBoxes_43 : decode b_Md_findBoxes 43 = .ok (.aload_n 0, 1) := by decide +kernel
theorem d_Md_findBoxes_44 : decode b_Md_findBoxes 44 = .ok (.getfield 19, 3) := by decide +kernel
theorem d_Md_findBoxes_47 : decode b_Md_findBoxes 47 = .ok (.iload_n 2, 1) := by decide +kernel
theorem d_Md_findBoxes_48 : decode b_Md_findBoxes 48 = .ok (.iaload, 1) := by decide +kernel
theorem d_Md_findBoxes_49 : decode b_Md_findBoxes 49 = .ok (.if_icmp .ge 7, 3) := by decide +kernel
theorem d_Md_findBoxes_52 : decode b_Md_findBoxes 52 = .ok (.iload_n 3, 1) := by decide +kernel
theorem d_Md_findBoxes_53 : decode b_Md_findBoxes 53 = .ok (.goto 4, 3) := by decide +kernel
theorem d_Md_findBoxes_56 : decode b_Md_findBoxes 56 = .ok (.iload_n 2, 1) := by decide +kernel
theorem d_Md_findBoxes_57 : decode b_Md_findBoxes 57 = .ok (.istore_n 2, 1) := by decide +kernel
theorem d_Md_findBoxes_58 : decode b_Md_findBoxes 58 = .ok (.iinc 3 1, 3) := by decide +kernel
theorem d_Md_findBoxes_61 : decode b_Md_findBoxes 61 = .ok (.goto (-45), 3) := by decide +kernel
theorem d_Md_findBoxes_64 : decode b_Md_findBoxes 64 = .ok (.aload_n 0, 1) := by decide +kernel
theorem d_Md_findBoxes_65 : decode b_Md_findBoxes 65 = .ok (.getfield 65, 3) := by decide +kernel
theorem d_Md_findBoxes_68 : decode b_Md_findBoxes 68 = .ok (.iload_n 1, 1) := by decide +kernel
theorem d_Md_findBoxes_69 : decode b_Md_findBoxes 69 = .ok (.iload_n 2, 1) := by decide +kernel
theorem d_Md_findBoxes_70 : decode b_Md_findBoxes 70 = .ok (.iastore, 1) := by decide +kernel
theorem d_Md_findBoxes_71 : decode b_Md_findBoxes 71 = .ok (.iinc 1 1, 3) := by decide +kernel
theorem d_Md_findBoxes_74 : decode b_Md_findBoxes 74 = .ok (.goto (-72), 3) := by decide +kernel
theorem d_Md_findBoxes_77 : decode b_Md_findBoxes 77 = .ok (.return_, 1) := by decide +kernel
theorem d_Md_setsOf_0 : decode b_Md_setsOf 0 = .ok (.iconst 0, 1) := by decide +kernel
theorem d_Md_setsOf_1 : decode b_Md_setsOf 1 = .ok (.istore_n 2, 1) := by decide +kernel
theorem d_Md_setsOf_2 : decode b_Md_setsOf 2 = .ok (.iconst 0, 1) := by decide +kernel
theorem d_Md_setsOf_3 : decode b_Md_setsOf 3 = .ok (.istore_n 3, 1) := by decide +kernel
theorem d_Md_setsOf_4 : decode b_Md_setsOf 4 = .ok (.iload_n 3, 1) := by decide +kernel
theorem d_Md_setsOf_5 : decode b_Md_setsOf 5 = .ok (.bipush 8, 2) := by decide +kernel
theorem d_Md_setsOf_7 : decode b_Md_setsOf 7 = .ok (.if_icmp .ge 16, 3) := by decide +kernel
theorem d_Md_setsOf_10 : decode b_Md_setsOf 10 = .ok (.aload_n 0, 1) := by decide +kernel
theorem d_Md_setsOf_11 : decode b_Md_setsOf 11 = .ok (.getfield 74, 3) := by decide +kernel
theorem d_Md_setsOf_14 : decode b_Md_setsOf 14 = .ok (.iload_n 3, 1) := by decide +kernel
theorem d_Md_setsOf_15 : decode b_Md_setsOf 15 = .ok (.iconst 0, 1) := by decide +kernel
theorem d_Md_setsOf_16 : decode b_Md_setsOf 16 = .ok (.iastore, 1) := by decide +kernel
theorem d_Md_setsOf_17 : decode b_Md_setsOf 17 = .ok (.iinc 3 1, 3) := by decide +kernel
theorem d_Md_setsOf_20 : decode b_Md_setsOf 20 = .ok (.goto (-16), 3) := by decide +kernel
theorem d_Md_setsOf_23 : decode b_Md_setsOf 23 = .ok (.iconst 0, 1) := by decide +kernel
theorem d_Md_setsOf_24 : decode b_Md_setsOf 24 = .ok (.istore_n 3, 1) := by decide +kernel
theorem d_Md_setsOf_25 : decode b_Md_setsOf 25 = .ok (.iload_n 3, 1) := by decide +kernel
theorem d_Md_setsOf_26 : decode b_Md_setsOf 26 = .ok (.aload_n 0, 1) := by decide +kernel
theorem d_Md_setsOf_27 : decode b_Md_setsOf 27 = .ok (.getfield 113, 3) := by decide +kernel
theorem d_Md_setsOf_30 : decode b_Md_setsOf 30 = .ok (.if_icmp .ge 40, 3) := by decide +kernel
theorem d_Md_setsOf_33 : decode b_Md_setsOf 33 = .ok (.aload_n 0, 1) := by decide +kernel
theorem d_Md_setsOf_34 : decode b_Md_setsOf 34 = .ok (.getfield 74, 3) := by decide +kernel
theorem d_Md_setsOf_37 : decode b_Md_setsOf 37 = .ok (.aload_n 1, 1) := by decide +kernel
theorem d_Md_setsOf_38 : decode b_Md_setsOf 38 = .ok (.iload_n 3, 1) := by decide +kernel
theorem d_Md_setsOf_39 : decode b_Md_setsOf 39 = .ok (.iaload, 1) := by decide +kernel
theorem d_Md_setsOf_40 : decode b_Md_setsOf 40 = .ok (.dup2, 1) := by decide +kernel
theorem d_Md_setsOf_41 : decode b_Md_setsOf 41 = .ok (.iaload, 1) := by decide +kernel
theorem d_Md_setsOf_42 : decode b_Md_setsOf 42 = .ok (.iconst 1, 1) := by decide +kernel
theorem d_Md_setsOf_43 : decode b_Md_setsOf 43 = .ok (.iload_n 3, 1) := by decide +kernel
theorem d_Md_setsOf_44 : decode b_Md_setsOf 44 = .ok (.ishl, 1) := by decide +kernel
theorem d_Md_setsOf_45 : decode b_Md_setsOf 45 = .ok (.ior, 1) := by decide +kernel
theorem d_Md_setsOf_46 : decode b_Md_setsOf 46 = .ok (.iastore, 1) := by decide +kernel
theorem d_Md_setsOf_47 : decode b_Md_setsOf 47 = .ok (.aload_n 1, 1) := by decide +kernel
theorem d_Md_setsOf_48 : decode b_Md_setsOf 48 = .ok (.iload_n 3, 1) := by decide +kernel
theorem d_Md_setsOf_49 : decode b_Md_setsOf 49 = .ok (.iaload, 1) := by decide +kernel
theorem d_Md_setsOf_50 : decode b_Md_setsOf 50 = .ok (.iload_n 2, 1) := by decide +kernel
theorem d_Md_setsOf_51 : decode b_Md_setsOf 51 = .ok (.if_icmp .lt 11, 3) := by decide +kernel
theorem d_Md_setsOf_54 : decode b_Md_setsOf 54 = .ok (.aload_n 1, 1) := by decide +kernel
theorem d_Md_setsOf_55 : decode b_Md_setsOf 55 = .ok (.iload_n 3, 1) := by decide +kernel
theorem d_Md_setsOf_56 : decode b_Md_setsOf 56 = .ok (.iaload, 1) := by decide +kernel
theorem d_Md_setsOf_57 : decode b_Md_setsOf 57 = .ok (.iconst 1, 1) := by decide +kernel
theorem d_Md_setsOf_58 : decode b_Md_setsOf 58 = .ok (.iadd, 1) := by decide +kernel
theorem d_Md_setsOf_59 : decode b_Md_setsOf 59 = .ok (.goto 4, 3) := by decide +kernel
theorem d_Md_setsOf_62 : decode b_Md_setsOf 62 = .ok (.iload_n 2, 1) := by decide +kernel
theorem d_Md_setsOf_63 : decode b_Md_setsOf 63 = .ok (.istore_n 2, 1) := by decide +kernel
theorem d_Md_setsOf_64 : decode b_Md_setsOf 64 = .ok (.iinc 3 1, 3) := by decide +kernel
theorem d_Md_setsOf_67 : decode b_Md_setsOf 67 = .ok (.goto (-42), 3) := by decide +kernel
theorem d_Md_setsOf_70 : decode b_Md_setsOf 70 = .ok (.iload_n 2, 1) := by decide +kernel
theorem d_Md_setsOf_71 : decode b_Md_setsOf 71 = .ok (.ireturn, 1) := by decide +kernel
theorem d_Md_costOf_0 : decode b_Md_costOf 0 = .ok (.iconst 0, 1) := by decide +kernel
theorem d_Md_costOf_1 : decode b_Md_costOf 1 = .ok (.istore_n 2, 1) := by decide +kernel
theorem d_Md_costOf_2 : decode b_Md_costOf 2 = .ok (.iconst 0, 1) := by decide +kernel
theorem d_Md_costOf_3 : decode b_Md_costOf 3 = .ok (.istore_n 3, 1) := by decide +kernel
theorem d_Md_costOf_4 : decode b_Md_costOf 4 = .ok (.iload_n 3, 1) := by decide +kernel
theorem d_Md_costOf_5 : decode b_Md_costOf 5 = .ok (.iload_n 1, 1) := by decide +kernel
theorem d_Md_costOf_6 : decode b_Md_costOf 6 = .ok (.if_icmp .ge 44, 3) := by decide +kernel
theorem d_Md_costOf_9 : decode b_Md_costOf 9 = .ok (.aload_n 0, 1) := by decide +kernel
theorem d_Md_costOf_10 : decode b_Md_costOf 10 = .ok (.getfield 65, 3) := by decide +kernel
theorem d_Md_costOf_13 : decode b_Md_costOf 13 = .ok (.aload_n 0, 1) := by decide +kernel
theorem d_Md_costOf_14 : decode b_Md_costOf 14 = .ok (.getfield 74, 3) := by decide +kernel
theorem d_Md_costOf_17 : decode b_Md_costOf 17 = .ok (.iload_n 3, 1) := by decide +kernel
theorem d_Md_costOf_18 : decode b_Md_costOf 18 = .ok (.iaload, 1) := by decide +kernel
theorem d_Md_costOf_19 : decode b_Md_costOf 19 = .ok (.iaload, 1) := by decide +kernel
theorem d_Md_costOf_20 : decode b_Md_costOf 20 = .ok (.ifCond .ge 5, 3) := by decide +kernel
theorem d_Md_costOf_23 : decode b_Md_costOf 23 = .ok (.iconst (-1), 1) := by decide +kernel
theorem d_Md_costOf_24 : decode b_Md_costOf 24 = .ok (.ireturn, 1) := by decide +kernel
theorem d_Md_costOf_25 : decode b_Md_costOf 25 = .ok (.iload_n 2, 1) := by decide +kernel
theorem d_Md_costOf_26 : decode b_Md_costOf 26 = .ok (.aload_n 0, 1) := by decide +kernel
theorem d_Md_costOf_27 : decode b_Md_costOf 27 = .ok (.getfield 19, 3) := by decide +kernel
theorem d_Md_costOf_30 : decode b_Md_costOf 30 = .ok (.aload_n 0, 1) := by decide +kernel
theorem d_Md_costOf_31 : decode b_Md_costOf 31 = .ok (.getfield 65, 3) := by decide +kernel
theorem d_Md_costOf_34 : decode b_Md_costOf 34 = .ok (.aload_n 0, 1) := by decide +kernel
theorem d_Md_costOf_35 : decode b_Md_costOf 35 = .ok (.getfield 74, 3) := by decide +kernel
theorem d_Md_costOf_38 : decode b_Md_costOf 38 = .ok (.iload_n 3, 1) := by decide +kernel
theorem d_Md_costOf_39 : decode b_Md_costOf 39 = .ok (.iaload, 1) := by decide +kernel
theorem d_Md_costOf_40 : decode b_Md_costOf 40 = .ok (.iaload, 1) := by decide +kernel
theorem d_Md_costOf_41 : decode b_Md_costOf 41 = .ok (.iaload, 1) := by decide +kernel
theorem d_Md_costOf_42 : decode b_Md_costOf 42 = .ok (.iadd, 1) := by decide +kernel
theorem d_Md_costOf_43 : decode b_Md_costOf 43 = .ok (.istore_n 2, 1) := by decide +kernel
theorem d_Md_costOf_44 : decode b_Md_costOf 44 = .ok (.iinc 3 1, 3) := by decide +kernel
theorem d_Md_costOf_47 : decode b_Md_costOf 47 = .ok (.goto (-43), 3) := by decide +kernel
theorem d_Md_costOf_50 : decode b_Md_costOf 50 = .ok (.iload_n 2, 1) := by decide +kernel
theorem d_Md_costOf_51 : decode b_Md_costOf 51 = .ok (.ireturn, 1) := by decide +kernel
theorem d_Md_next_0 : decode b_Md_next 0 = .ok (.aload_n 0, 1) := by decide +kernel
theorem d_Md_next_1 : decode b_Md_next 1 = .ok (.getfield 113, 3) := by decide +kernel
theorem d_Md_next_4 : decode b_Md_next 4 = .ok (.iconst 1, 1) := by decide +kernel
theorem d_Md_next_5 : decode b_Md_next 5 = .ok (.isub, 1) := by decide +kernel
theorem d_Md_next_6 : decode b_Md_next 6 = .ok (.istore_n 1, 1) := by decide +kernel
theorem d_Md_next_7 : decode b_Md_next 7 = .ok (.iload_n 1, 1) := by decide +kernel
theorem d_Md_next_8 : decode b_Md_next 8 = .ok (.ifCond .le 92, 3) := by decide +kernel
theorem d_Md_next_11 : decode b_Md_next 11 = .ok (.iconst 0, 1) := by decide +kernel
theorem d_Md_next_12 : decode b_Md_next 12 = .ok (.istore_n 2, 1) := by decide +kernel
theorem d_Md_next_13 : decode b_Md_next 13 = .ok (.iconst 0, 1) := by decide +kernel
theorem d_Md_next_14 : decode b_Md_next 14 = .ok (.istore_n 3, 1) := by decide +kernel
theorem d_Md_next_15 : decode b_Md_next 15 = .ok (.iload_n 3, 1) := by decide +kernel
theorem d_Md_next_16 : decode b_Md_next 16 = .ok (.iload_n 1, 1) := by decide +kernel
theorem d_Md_next_17 : decode b_Md_next 17 = .ok (.if_icmp .ge 30, 3) := by decide +kernel
theorem d_Md_next_20 : decode b_Md_next 20 = .ok (.aload_n 0, 1) := by decide +kernel
theorem d_Md_next_21 : decode b_Md_next 21 = .ok (.getfield 71, 3) := by decide +kernel
theorem d_Md_next_24 : decode b_Md_next 24 = .ok (.iload_n 3, 1) := by decide +kernel
theorem d_Md_next_25 : decode b_Md_next 25 = .ok (.iaload, 1) := by decide +kernel
theorem d_Md_next_26 : decode b_Md_next 26 = .ok (.iload_n 2, 1) := by decide +kernel
theorem d_Md_next_27 : decode b_Md_next 27 = .ok (.if_icmp .le 12, 3) := by decide +kernel
theorem d_Md_next_30 : decode b_Md_next 30 = .ok (.aload_n 0, 1) := by decide +kernel
theorem d_Md_next_31 : decode b_Md_next 31 = .ok (.getfield 71, 3) := by decide +kernel
theorem d_Md_next_34 : decode b_Md_next 34 = .ok (.iload_n 3, 1) := by decide +kernel
theorem d_Md_next_35 : decode b_Md_next 35 = .ok (.iaload, 1) := by decide +kernel
theorem d_Md_next_36 : decode b_Md_next 36 = .ok (.goto 4, 3) := by decide +kernel
theorem d_Md_next_39 : decode b_Md_next 39 = .ok (.iload_n 2, 1) := by decide +kernel
theorem d_Md_next_40 : decode b_Md_next 40 = .ok (.istore_n 2, 1) := by decide +kernel
theorem d_Md_next_41 : decode b_Md_next 41 = .ok (.iinc 3 1, 3) := by decide +kernel
theorem d_Md_next_44 : decode b_Md_next 44 = .ok (.goto (-29), 3) := by decide +kernel
theorem d_Md_next_47 : decode b_Md_next 47 = .ok (.aload_n 0, 1) := by decide +kernel
theorem d_Md_next_48 : decode b_Md_next 48 = .ok (.getfield 71, 3) := by decide +kernel
theorem d_Md_next_51 : decode b_Md_next 51 = .ok (.iload_n 1, 1) := by decide +kernel
theorem d_Md_next_52 : decode b_Md_next 52 = .ok (.iaload, 1) := by decide +kernel
theorem d_Md_next_53 : decode b_Md_next 53 = .ok (.iload_n 2, 1) := by decide +kernel
theorem d_Md_next_54 : decode b_Md_next 54 = .ok (.if_icmp .gt 40, 3) := by decide +kernel
theorem d_Md_next_57 : decode b_Md_next 57 = .ok (.aload_n 0, 1) := by decide +kernel
theorem d_Md_next_58 : decode b_Md_next 58 = .ok (.getfield 71, 3) := by decide +kernel
theorem d_Md_next_61 : decode b_Md_next 61 = .ok (.iload_n 1, 1) := by decide +kernel
theorem d_Md_next_62 : decode b_Md_next 62 = .ok (.dup2, 1) := by decide +kernel
theorem d_Md_next_63 : decode b_Md_next 63 = .ok (.iaload, 1) := by decide +kernel
theorem d_Md_next_64 : decode b_Md_next 64 = .ok (.iconst 1, 1) := by decide +kernel
theorem d_Md_next_65 : decode b_Md_next 65 = .ok (.iadd, 1) := by decide +kernel
theorem d_Md_next_66 : decode b_Md_next 66 = .ok (.iastore, 1) := by decide +kernel
theorem d_Md_next_67 : decode b_Md_next 67 = .ok (.iload_n 1, 1) := by decide +kernel
theorem d_Md_next_68 : decode b_Md_next 68 = .ok (.iconst 1, 1) := by decide +kernel
theorem d_Md_next_69 : decode b_Md_next 69 = .ok (.iadd, 1) := by decide +kernel
theorem d_Md_next_70 : decode b_Md_next 70 = .ok (.istore_n 3, 1) := by decide +kernel
theorem d_Md_next_71 : decode b_Md_next 71 = .ok (.iload_n 3, 1) := by decide +kernel
theorem d_Md_next_72 : decode b_Md_next 72 = .ok (.aload_n 0, 1) := by decide +kernel
theorem d_Md_next_73 : decode b_Md_next 73 = .ok (.getfield 113, 3) := by decide +kernel
theorem d_Md_next_76 : decode b_Md_next 76 = .ok (.if_icmp .ge 16, 3) := by decide +kernel
theorem d_Md_next_79 : decode b_Md_next 79 = .ok (.aload_n 0, 1) := by decide +kernel
theorem d_Md_next_80 : decode b_Md_next 80 = .ok (.getfield 71, 3) := by decide +kernel
theorem d_Md_next_83 : decode b_Md_next 83 = .ok (.iload_n 3, 1) := by decide +kernel
theorem d_Md_next_84 : decode b_Md_next 84 = .ok (.iconst 0, 1) := by decide +kernel
theorem d_Md_next_85 : decode b_Md_next 85 = .ok (.iastore, 1) := by decide +kernel
theorem d_Md_next_86 : decode b_Md_next 86 = .ok (.iinc 3 1, 3) := by decide +kernel
theorem d_Md_next_89 : decode b_Md_next 89 = .ok (.goto (-18), 3) := by decide +kernel
theorem d_Md_next_92 : decode b_Md_next 92 = .ok (.iconst 1, 1) := by decide +kernel
theorem d_Md_next_93 : decode b_Md_next 93 = .ok (.ireturn, 1) := by decide +kernel
theorem d_Md_next_94 : decode b_Md_next 94 = .ok (.iinc 1 (-1), 3) := by decide +kernel
theorem d_Md_next_97 : decode b_Md_next 97 = .ok (.goto (-90), 3) := by decide +kernel
theorem d_Md_next_100 : decode b_Md_next 100 = .ok (.iconst 0, 1) := by decide +kernel
theorem d_Md_next_101 : decode b_Md_next 101 = .ok (.ireturn, 1) := by decide +kernel
theorem d_Md_run_0 : decode b_Md_run 0 = .ok (.aload_n 0, 1) := by decide +kernel
theorem d_Md_run_1 : decode b_Md_run 1 = .ok (.iconst 0, 1) := by decide +kernel
theorem d_Md_run_2 : decode b_Md_run 2 = .ok (.putfield 93, 3) := by decide +kernel
theorem d_Md_run_5 : decode b_Md_run 5 = .ok (.aload_n 0, 1) := by decide +kernel
theorem d_Md_run_6 : decode b_Md_run 6 = .ok (.invokevirtual 138, 3) := by decide +kernel
theorem d_Md_run_9 : decode b_Md_run 9 = .ok (.iconst 0, 1) := by decide +kernel
theorem d_Md_run_10 : decode b_Md_run 10 = .ok (.istore_n 1, 1) := by decide +kernel
theorem d_Md_run_11 : decode b_Md_run 11 = .ok (.iload_n 1, 1) := by decide +kernel
theorem d_Md_run_12 : decode b_Md_run 12 = .ok (.bipush 8, 2) := by decide +kernel
theorem d_Md_run_14 : decode b_Md_run 14 = .ok (.if_icmp .ge 16, 3) := by decide +kernel
theorem d_Md_run_17 : decode b_Md_run 17 = .ok (.aload_n 0, 1) := by decide +kernel
theorem d_Md_run_18 : decode b_Md_run 18 = .ok (.getfield 71, 3) := by decide +kernel
theorem d_Md_run_21 : decode b_Md_run 21 = .ok (.iload_n 1, 1) := by decide +kernel
theorem d_Md_run_22 : decode b_Md_run 22 = .ok (.iconst 0, 1) := by decide +kernel
theorem d_Md_run_23 : decode b_Md_run 23 = .ok (.iastore, 1) := by decide +kernel
theorem d_Md_run_24 : decode b_Md_run 24 = .ok (.iinc 1 1, 3) := by decide +kernel
theorem d_Md_run_27 : decode b_Md_run 27 = .ok (.goto (-16), 3) := by decide +kernel
theorem d_Md_run_30 : decode b_Md_run 30 = .ok (.iconst (-1), 1) := by decide +kernel
theorem d_Md_run_31 : decode b_Md_run 31 = .ok (.istore_n 1, 1) := by decide +kernel
theorem d_Md_run_32 : decode b_Md_run 32 = .ok (.aload_n 0, 1) := by decide +kernel
theorem d_Md_run_33 : decode b_Md_run 33 = .ok (.iconst 0, 1) := by decide +kernel
theorem d_Md_run_34 : decode b_Md_run 34 = .ok (.putfield 141, 3) := by decide +kernel
theorem d_Md_run_37 : decode b_Md_run 37 = .ok (.iconst 1, 1) := by decide +kernel
theorem d_Md_run_38 : decode b_Md_run 38 = .ok (.istore_n 2, 1) := by decide +kernel
theorem d_Md_run_39 : decode b_Md_run 39 = .ok (.iload_n 2, 1) := by decide +kernel
theorem d_Md_run_40 : decode b_Md_run 40 = .ok (.ifCond .eq 96, 3) := by decide +kernel
theorem d_Md_run_43 : decode b_Md_run 43 = .ok (.aload_n 0, 1) := by decide +kernel
theorem d_Md_run_44 : decode b_Md_run 44 = .ok (.aload_n 0, 1) := by decide +kernel
theorem d_Md_run_45 : decode b_Md_run 45 = .ok (.getfield 71, 3) := by decide +kernel
theorem d_Md_run_48 : decode b_Md_run 48 = .ok (.invokevirtual 144, 3) := by decide +kernel
theorem d_Md_run_51 : decode b_Md_run 51 = .ok (.istore_n 3, 1) := by decide +kernel
theorem d_Md_run_52 : decode b_Md_run 52 = .ok (.aload_n 0, 1) := by decide +kernel
theorem d_Md_run_53 : decode b_Md_run 53 = .ok (.iload_n 3, 1) := by decide +kernel
theorem d_Md_run_54 : decode b_Md_run 54 = .ok (.invokevirtual 148, 3) := by decide +kernel
theorem d_Md_run_57 : decode b_Md_run 57 = .ok (.istore 4, 2) := by decide +kernel
theorem d_Md_run_59 : decode b_Md_run 59 = .ok (.iload 4, 2) := by decide +kernel
theorem d_Md_run_61 : decode b_Md_run 61 = .ok (.ifCond .lt 67, 3) := by decide +kernel
theorem d_Md_run_64 : decode b_Md_run 64 = .ok (.iload_n 1, 1) := by decide +kernel
theorem d_Md_run_65 : decode b_Md_run 65 = .ok (.ifCond .lt 23, 3) := by decide +kernel
theorem d_Md_run_68 : decode b_Md_run 68 = .ok (.iload 4, 2) := by decide +kernel
theorem d_Md_run_70 : decode b_Md_run 70 = .ok (.iload_n 1, 1) := by decide +kernel
theorem d_Md_run_71 : decode b_Md_run 71 = .ok (.if_icmp .lt 17, 3) := by decide +kernel
theorem d_Md_run_74 : decode b_Md_run 74 = .ok (.iload 4, 2) := by decide +kernel
theorem d_Md_run_76 : decode b_Md_run 76 = .ok (.iload_n 1, 1) := by decide +kernel
theorem d_Md_run_77 : decode b_Md_run 77 = .ok (.if_icmp .ne 51, 3) := by decide +kernel
theorem d_Md_run_80 : decode b_Md_run 80 = .ok (.iload_n 3, 1) := by decide +kernel
theorem d_Md_run_81 : decode b_Md_run 81 = .ok (.aload_n 0, 1) := by decide +kernel
theorem d_Md_run_82 : decode b_Md_run 82 = .ok (.getfield 141, 3) := by decide +kernel
theorem d_Md_run_85 : decode b_Md_run 85 = .ok (.if_icmp .ge 43, 3) := by decide +kernel
theorem d_Md_run_88 : decode b_Md_run 88 = .ok (.iload 4, 2) := by decide +kernel
theorem d_Md_run_90 : decode b_Md_run 90 = .ok (.istore_n 1, 1) := by decide +kernel
theorem d_Md_run_91 : decode b_Md_run 91 = .ok (.aload_n 0, 1) := by decide +kernel
theorem d_Md_run_92 : decode b_Md_run 92 = .ok (.iload_n 3, 1) := by decide +kernel
theorem d_Md_run_93 : decode b_Md_run 93 = .ok (.putfield 141, 3) := by decide +kernel
theorem d_Md_run_96 : decode b_Md_run 96 = .ok (.iconst 0, 1) := by decide +kernel
theorem d_Md_run_97 : decode b_Md_run 97 = .ok (.istore 5, 2) := by decide +kernel
theorem d_Md_run_99 : decode b_Md_run 99 = .ok (.iload 5, 2) := by decide +kernel
theorem d_Md_run_101 : decode b_Md_run 101 = .ok (.aload_n 0, 1) := by decide +kernel
theorem d_Md_run_102 : decode b_Md_run 102 = .ok (.getfield 113, 3) := by decide +kernel
theorem d_Md_run_105 : decode b_Md_run 105 = .ok (.if_icmp .ge 23, 3) := by decide +kernel
theorem d_Md_run_108 : decode b_Md_run 108 = .ok (.aload_n 0, 1) := by decide +kernel
theorem d_Md_run_109 : decode b_Md_run 109 = .ok (.getfield 68, 3) := by decide +kernel
theorem d_Md_run_112 : decode b_Md_run 112 = .ok (.iload 5, 2) := by decide +kernel
theorem d_Md_run_114 : decode b_Md_run 114 = .ok (.aload_n 0, 1) := by decide +kernel
theorem d_Md_run_115 : decode b_Md_run 115 = .ok (.getfield 71, 3) := by decide +kernel
theorem d_Md_run_118 : decode b_Md_run 118 = .ok (.iload 5, 2) := by decide +kernel
theorem d_Md_run_120 : decode b_Md_run 120 = .ok (.iaload, 1) := by decide +kernel
theorem d_Md_run_121 : decode b_Md_run 121 = .ok (.iastore, 1) := by decide +kernel
theorem d_Md_run_122 : decode b_Md_run 122 = .ok (.iinc 5 1, 3) := by decide +kernel
theorem d_Md_run_125 : decode b_Md_run 125 = .ok (.goto (-26), 3) := by decide +kernel
theorem d_Md_run_128 : decode b_Md_run 128 = .ok (.aload_n 0, 1) := by decide +kernel
theorem d_Md_run_129 : decode b_Md_run 129 = .ok (.invokevirtual 151, 3) := by decide +kernel
theorem d_Md_run_132 : decode b_Md_run 132 = .ok (.istore_n 2, 1) := by decide +kernel
theorem d_Md_run_133 : decode b_Md_run 133 = .ok (.goto (-94), 3) := by decide +kernel
theorem d_Md_run_136 : decode b_Md_run 136 = .ok (.aload_n 0, 1) := by decide +kernel
theorem d_Md_run_137 : decode b_Md_run 137 = .ok (.iload_n 1, 1) := by decide +kernel
theorem d_Md_run_138 : decode b_Md_run 138 = .ok (.ifCond .lt 7, 3) := by decide +kernel
theorem d_Md_run_141 : decode b_Md_run 141 = .ok (.iconst 1, 1) := by decide +kernel
theorem d_Md_run_142 : decode b_Md_run 142 = .ok (.goto 4, 3) := by decide +kernel
theorem d_Md_run_145 : decode b_Md_run 145 = .ok (.iconst 0, 1) := by decide +kernel
theorem d_Md_run_146 : decode b_Md_run 146 = .ok (.putfield 108, 3) := by decide +kernel
theorem d_Md_run_149 : decode b_Md_run 149 = .ok (.aload_n 0, 1) := by decide +kernel
theorem d_Md_run_150 : decode b_Md_run 150 = .ok (.getfield 108, 3) := by decide +kernel
theorem d_Md_run_153 : decode b_Md_run 153 = .ok (.ifCond .eq 10, 3) := by decide +kernel
theorem d_Md_run_156 : decode b_Md_run 156 = .ok (.aload_n 0, 1) := by decide +kernel
theorem d_Md_run_157 : decode b_Md_run 157 = .ok (.getfield 141, 3) := by decide +kernel
theorem d_Md_run_160 : decode b_Md_run 160 = .ok (.goto 4, 3) := by decide +kernel
theorem d_Md_run_163 : decode b_Md_run 163 = .ok (.iconst (-1), 1) := by decide +kernel
theorem d_Md_run_164 : decode b_Md_run 164 = .ok (.ireturn, 1) := by decide +kernel
theorem d_Md_packBox_0 : decode b_Md_packBox 0 = .ok (.aload_n 0, 1) := by decide +kernel
theorem d_Md_packBox_1 : decode b_Md_packBox 1 = .ok (.aload_n 0, 1) := by decide +kernel
theorem d_Md_packBox_2 : decode b_Md_packBox 2 = .ok (.getfield 68, 3) := by decide +kernel
theorem d_Md_packBox_5 : decode b_Md_packBox 5 = .ok (.invokevirtual 144, 3) := by decide +kernel
theorem d_Md_packBox_8 : decode b_Md_packBox 8 = .ok (.istore_n 2, 1) := by decide +kernel
theorem d_Md_packBox_9 : decode b_Md_packBox 9 = .ok (.aload_n 0, 1) := by decide +kernel
theorem d_Md_packBox_10 : decode b_Md_packBox 10 = .ok (.getfield 65, 3) := by decide +kernel
theorem d_Md_packBox_13 : decode b_Md_packBox 13 = .ok (.aload_n 0, 1) := by decide +kernel
theorem d_Md_packBox_14 : decode b_Md_packBox 14 = .ok (.getfield 74, 3) := by decide +kernel
theorem d_Md_packBox_17 : decode b_Md_packBox 17 = .ok (.iload_n 1, 1) := by decide +kernel
theorem d_Md_packBox_18 : decode b_Md_packBox 18 = .ok (.iaload, 1) := by decide +kernel
theorem d_Md_packBox_19 : decode b_Md_packBox 19 = .ok (.iaload, 1) := by decide +kernel
theorem d_Md_packBox_20 : decode b_Md_packBox 20 = .ok (.istore_n 3, 1) := by decide +kernel
theorem d_Md_packBox_21 : decode b_Md_packBox 21 = .ok (.aload_n 0, 1) := by decide +kernel
theorem d_Md_packBox_22 : decode b_Md_packBox 22 = .ok (.aload_n 0, 1) := by decide +kernel
theorem d_Md_packBox_23 : decode b_Md_packBox 23 = .ok (.getfield 74, 3) := by decide +kernel
theorem d_Md_packBox_26 : decode b_Md_packBox 26 = .ok (.iload_n 1, 1) := by decide +kernel
theorem d_Md_packBox_27 : decode b_Md_packBox 27 = .ok (.iaload, 1) := by decide +kernel
theorem d_Md_packBox_28 : decode b_Md_packBox 28 = .ok (.iload_n 3, 1) := by decide +kernel
theorem d_Md_packBox_29 : decode b_Md_packBox 29 = .ok (.invokevirtual 135, 3) := by decide +kernel
theorem d_Md_packBox_32 : decode b_Md_packBox 32 = .ok (.pop, 1) := by decide +kernel
theorem d_Md_packBox_33 : decode b_Md_packBox 33 = .ok (.iload_n 3, 1) := by decide +kernel
theorem d_Md_packBox_34 : decode b_Md_packBox 34 = .ok (.ireturn, 1) := by decide +kernel
theorem d_Md_isBelow_0 : decode b_Md_isBelow 0 = .ok (.aload_n 0, 1) := by decide +kernel
theorem d_Md_isBelow_1 : decode b_Md_isBelow 1 = .ok (.getfield 62, 3) := by decide +kernel
theorem d_Md_isBelow_4 : decode b_Md_isBelow 4 = .ok (.iload_n 1, 1) := by decide +kernel
theorem d_Md_isBelow_5 : decode b_Md_isBelow 5 = .ok (.baload, 1) := by decide +kernel
theorem d_Md_isBelow_6 : decode b_Md_isBelow 6 = .ok (.aload_n 0, 1) := by decide +kernel
theorem d_Md_isBelow_7 : decode b_Md_isBelow 7 = .ok (.getfield 62, 3) := by decide +kernel
theorem d_Md_isBelow_10 : decode b_Md_isBelow 10 = .ok (.iload_n 2, 1) := by decide +kernel
theorem d_Md_isBelow_11 : decode b_Md_isBelow 11 = .ok (.baload, 1) := by decide +kernel
theorem d_Md_isBelow_12 : decode b_Md_isBelow 12 = .ok (.if_icmp .eq 10, 3) := by decide +kernel
theorem d_Md_isBelow_15 : decode b_Md_isBelow 15 = .ok (.aload_n 0, 1) := by decide +kernel
theorem d_Md_isBelow_16 : decode b_Md_isBelow 16 = .ok (.getfield 62, 3) := by decide +kernel
theorem d_Md_isBelow_19 : decode b_Md_isBelow 19 = .ok (.iload_n 2, 1) := by decide +kernel
theorem d_Md_isBelow_20 : decode b_Md_isBelow 20 = .ok (.baload, 1) := by decide +kernel
theorem d_Md_isBelow_21 : decode b_Md_isBelow 21 = .ok (.ireturn, 1) := by decide +kernel
theorem d_Md_isBelow_22 : decode b_Md_isBelow 22 = .ok (.aload_n 0, 1) := by decide +kernel
theorem d_Md_isBelow_23 : decode b_Md_isBelow 23 = .ok (.getfield 59, 3) := by decide +kernel
theorem d_Md_isBelow_26 : decode b_Md_isBelow 26 = .ok (.iload_n 1, 1) := by decide +kernel
theorem d_Md_isBelow_27 : decode b_Md_isBelow 27 = .ok (.iaload, 1) := by decide +kernel
theorem d_Md_isBelow_28 : decode b_Md_isBelow 28 = .ok (.aload_n 0, 1) := by decide +kernel
theorem d_Md_isBelow_29 : decode b_Md_isBelow 29 = .ok (.getfield 59, 3) := by decide +kernel
theorem d_Md_isBelow_32 : decode b_Md_isBelow 32 = .ok (.iload_n 2, 1) := by decide +kernel
theorem d_Md_isBelow_33 : decode b_Md_isBelow 33 = .ok (.iaload, 1) := by decide +kernel
theorem d_Md_isBelow_34 : decode b_Md_isBelow 34 = .ok (.if_icmp .eq 24, 3) := by decide +kernel
theorem d_Md_isBelow_37 : decode b_Md_isBelow 37 = .ok (.aload_n 0, 1) := by decide +kernel
theorem d_Md_isBelow_38 : decode b_Md_isBelow 38 = .ok (.getfield 59, 3) := by decide +kernel
theorem d_Md_isBelow_41 : decode b_Md_isBelow 41 = .ok (.iload_n 1, 1) := by decide +kernel
theorem d_Md_isBelow_42 : decode b_Md_isBelow 42 = .ok (.iaload, 1) := by decide +kernel
theorem d_Md_isBelow_43 : decode b_Md_isBelow 43 = .ok (.aload_n 0, 1) := by decide +kernel
theorem d_Md_isBelow_44 : decode b_Md_isBelow 44 = .ok (.getfield 59, 3) := by decide +kernel
theorem d_Md_isBelow_47 : decode b_Md_isBelow 47 = .ok (.iload_n 2, 1) := by decide +kernel
theorem d_Md_isBelow_48 : decode b_Md_isBelow 48 = .ok (.iaload, 1) := by decide +kernel
theorem d_Md_isBelow_49 : decode b_Md_isBelow 49 = .ok (.if_icmp .le 7, 3) := by decide +kernel
theorem d_Md_isBelow_52 : decode b_Md_isBelow 52 = .ok (.iconst 1, 1) := by decide +kernel
theorem d_Md_isBelow_53 : decode b_Md_isBelow 53 = .ok (.goto 4, 3) := by decide +kernel
theorem d_Md_isBelow_56 : decode b_Md_isBelow 56 = .ok (.iconst 0, 1) := by decide +kernel
theorem d_Md_isBelow_57 : decode b_Md_isBelow 57 = .ok (.ireturn, 1) := by decide +kernel
theorem d_Md_isBelow_58 : decode b_Md_isBelow 58 = .ok (.aload_n 0, 1) := by decide +kernel
theorem d_Md_isBelow_59 : decode b_Md_isBelow 59 = .ok (.getfield 56, 3) := by decide +kernel
theorem d_Md_isBelow_62 : decode b_Md_isBelow 62 = .ok (.iload_n 1, 1) := by decide +kernel
theorem d_Md_isBelow_63 : decode b_Md_isBelow 63 = .ok (.iaload, 1) := by decide +kernel
theorem d_Md_isBelow_64 : decode b_Md_isBelow 64 = .ok (.aload_n 0, 1) := by decide +kernel
theorem d_Md_isBelow_65 : decode b_Md_isBelow 65 = .ok (.getfield 56, 3) := by decide +kernel
theorem d_Md_isBelow_68 : decode b_Md_isBelow 68 = .ok (.iload_n 2, 1) := by decide +kernel
theorem d_Md_isBelow_69 : decode b_Md_isBelow 69 = .ok (.iaload, 1) := by decide +kernel
theorem d_Md_isBelow_70 : decode b_Md_isBelow 70 = .ok (.if_icmp .eq 26, 3) := by decide +kernel
theorem d_Md_isBelow_73 : decode b_Md_isBelow 73 = .ok (.aload_n 0, 1) := by decide +kernel
theorem d_Md_isBelow_74 : decode b_Md_isBelow 74 = .ok (.getfield 56, 3) := by decide +kernel
theorem d_Md_isBelow_77 : decode b_Md_isBelow 77 = .ok (.iload_n 1, 1) := by decide +kernel
theorem d_Md_isBelow_78 : decode b_Md_isBelow 78 = .ok (.iaload, 1) := by decide +kernel
theorem d_Md_isBelow_79 : decode b_Md_isBelow 79 = .ok (.aload_n 0, 1) := by decide +kernel
theorem d_Md_isBelow_80 : decode b_Md_isBelow 80 = .ok (.getfield 56, 3) := by decide +kernel
theorem d_Md_isBelow_83 : decode b_Md_isBelow 83 = .ok (.iload_n 2, 1) := by decide +kernel
theorem d_Md_isBelow_84 : decode b_Md_isBelow 84 = .ok (.iaload, 1) := by decide +kernel
theorem d_Md_isBelow_85 : decode b_Md_isBelow 85 = .ok (.if_icmp .le 7, 3) := by decide +kernel
theorem d_Md_isBelow_88 : decode b_Md_isBelow 88 = .ok (.iconst 1, 1) := by decide +kernel
theorem d_Md_isBelow_89 : decode b_Md_isBelow 89 = .ok (.goto 17, 3) := by decide +kernel
theorem d_Md_isBelow_92 : decode b_Md_isBelow 92 = .ok (.iconst 0, 1) := by decide +kernel
theorem d_Md_isBelow_93 : decode b_Md_isBelow 93 = .ok (.goto 13, 3) := by decide +kernel
theorem d_Md_isBelow_96 : decode b_Md_isBelow 96 = .ok (.iload_n 1, 1) := by decide +kernel
theorem d_Md_isBelow_97 : decode b_Md_isBelow 97 = .ok (.iload_n 2, 1) := by decide +kernel
theorem d_Md_isBelow_98 : decode b_Md_isBelow 98 = .ok (.if_icmp .ge 7, 3) := by decide +kernel
theorem d_Md_isBelow_101 : decode b_Md_isBelow 101 = .ok (.iconst 1, 1) := by decide +kernel
theorem d_Md_isBelow_102 : decode b_Md_isBelow 102 = .ok (.goto 4, 3) := by decide +kernel
theorem d_Md_isBelow_105 : decode b_Md_isBelow 105 = .ok (.iconst 0, 1) := by decide +kernel
theorem d_Md_isBelow_106 : decode b_Md_isBelow 106 = .ok (.ireturn, 1) := by decide +kernel
theorem d_Md_at_0 : decode b_Md_at 0 = .ok (.aload_n 0, 1) := by decide +kernel
theorem d_Md_at_1 : decode b_Md_at 1 = .ok (.aload_n 0, 1) := by decide +kernel
theorem d_Md_at_2 : decode b_Md_at 2 = .ok (.getfield 108, 3) := by decide +kernel
theorem d_Md_at_5 : decode b_Md_at 5 = .ok (.ifCond .ne 7, 3) := by decide +kernel
theorem d_Md_at_8 : decode b_Md_at 8 = .ok (.iconst 1, 1) := by decide +kernel
theorem d_Md_at_9 : decode b_Md_at 9 = .ok (.goto 31, 3) := by decide +kernel
theorem d_Md_at_12 : decode b_Md_at 12 = .ok (.iload_n 1, 1) := by decide +kernel
theorem d_Md_at_13 : decode b_Md_at 13 = .ok (.iconst 0, 1) := by decide +kernel
theorem d_Md_at_14 : decode b_Md_at 14 = .ok (.aload_n 0, 1) := by decide +kernel
theorem d_Md_at_15 : decode b_Md_at 15 = .ok (.getfield 113, 3) := by decide +kernel
theorem d_Md_at_18 : decode b_Md_at 18 = .ok (.iconst 1, 1) := by decide +kernel
theorem d_Md_at_19 : decode b_Md_at 19 = .ok (.isub, 1) := by decide +kernel
theorem d_Md_at_20 : decode b_Md_at 20 = .ok (.invokestatic 96, 3) := by decide +kernel
theorem d_Md_at_23 : decode b_Md_at 23 = .ok (.ifCond .eq 12, 3) := by decide +kernel
theorem d_Md_at_26 : decode b_Md_at 26 = .ok (.iload_n 2, 1) := by decide +kernel
theorem d_Md_at_27 : decode b_Md_at 27 = .ok (.iconst 0, 1) := by decide +kernel
theorem d_Md_at_28 : decode b_Md_at 28 = .ok (.iconst 3, 1) := by decide +kernel
theorem d_Md_at_29 : decode b_Md_at 29 = .ok (.invokestatic 96, 3) := by decide +kernel
theorem d_Md_at_32 : decode b_Md_at 32 = .ok (.ifCond .ne 7, 3) := by decide +kernel
theorem d_Md_at_35 : decode b_Md_at 35 = .ok (.iconst 2, 1) := by decide +kernel
theorem d_Md_at_36 : decode b_Md_at 36 = .ok (.goto 4, 3) := by decide +kernel
theorem d_Md_at_39 : decode b_Md_at 39 = .ok (.iconst 0, 1) := by decide +kernel
theorem d_Md_at_40 : decode b_Md_at 40 = .ok (.putfield 93, 3) := by decide +kernel
theorem d_Md_at_43 : decode b_Md_at 43 = .ok (.aload_n 0, 1) := by decide +kernel
theorem d_Md_at_44 : decode b_Md_at 44 = .ok (.getfield 93, 3) := by decide +kernel
theorem d_Md_at_47 : decode b_Md_at 47 = .ok (.ifCond .le 5, 3) := by decide +kernel
theorem d_Md_at_50 : decode b_Md_at 50 = .ok (.iconst 0, 1) := by decide +kernel
theorem d_Md_at_51 : decode b_Md_at 51 = .ok (.ireturn, 1) := by decide +kernel
theorem d_Md_at_52 : decode b_Md_at 52 = .ok (.aload_n 0, 1) := by decide +kernel
theorem d_Md_at_53 : decode b_Md_at 53 = .ok (.aload_n 0, 1) := by decide +kernel
theorem d_Md_at_54 : decode b_Md_at 54 = .ok (.getfield 68, 3) := by decide +kernel
theorem d_Md_at_57 : decode b_Md_at 57 = .ok (.iload_n 1, 1) := by decide +kernel
theorem d_Md_at_58 : decode b_Md_at 58 = .ok (.iaload, 1) := by decide +kernel
theorem d_Md_at_59 : decode b_Md_at 59 = .ok (.invokevirtual 155, 3) := by decide +kernel
theorem d_Md_at_62 : decode b_Md_at 62 = .ok (.pop, 1) := by decide +kernel
theorem d_Md_at_63 : decode b_Md_at 63 = .ok (.iconst 0, 1) := by decide +kernel
theorem d_Md_at_64 : decode b_Md_at 64 = .ok (.istore_n 3, 1) := by decide +kernel
theorem d_Md_at_65 : decode b_Md_at 65 = .ok (.iconst 0, 1) := by decide +kernel
theorem d_Md_at_66 : decode b_Md_at 66 = .ok (.istore 4, 2) := by decide +kernel
theorem d_Md_at_68 : decode b_Md_at 68 = .ok (.iconst 0, 1) := by decide +kernel
theorem d_Md_at_69 : decode b_Md_at 69 = .ok (.istore 5, 2) := by decide +kernel
theorem d_Md_at_71 : decode b_Md_at 71 = .ok (.iload 5, 2) := by decide +kernel
theorem d_Md_at_73 : decode b_Md_at 73 = .ok (.aload_n 0, 1) := by decide +kernel
theorem d_Md_at_74 : decode b_Md_at 74 = .ok (.getfield 116, 3) := by decide +kernel
theorem d_Md_at_77 : decode b_Md_at 77 = .ok (.if_icmp .ge 39, 3) := by decide +kernel
theorem d_Md_at_80 : decode b_Md_at 80 = .ok (.aload_n 0, 1) := by decide +kernel
theorem d_Md_at_81 : decode b_Md_at 81 = .ok (.iload 5, 2) := by decide +kernel
theorem d_Md_at_83 : decode b_Md_at 83 = .ok (.aload_n 0, 1) := by decide +kernel
theorem d_Md_at_84 : decode b_Md_at 84 = .ok (.getfield 44, 3) := by decide +kernel
theorem d_Md_at_87 : decode b_Md_at 87 = .ok (.iload_n 1, 1) := by decide +kernel
theorem d_Md_at_88 : decode b_Md_at 88 = .ok (.iaload, 1) := by decide +kernel
theorem d_Md_at_89 : decode b_Md_at 89 = .ok (.invokevirtual 158, 3) := by decide +kernel
theorem d_Md_at_92 : decode b_Md_at 92 = .ok (.ifCond .eq 18, 3) := by decide +kernel
theorem d_Md_at_95 : decode b_Md_at 95 = .ok (.iinc 3 1, 3) := by decide +kernel
theorem d_Md_at_98 : decode b_Md_at 98 = .ok (.iload 4, 2) := by decide +kernel
theorem d_Md_at_100 : decode b_Md_at 100 = .ok (.aload_n 0, 1) := by decide +kernel
theorem d_Md_at_101 : decode b_Md_at 101 = .ok (.getfield 53, 3) := by decide +kernel
theorem d_Md_at_104 : decode b_Md_at 104 = .ok (.iload 5, 2) := by decide +kernel
theorem d_Md_at_106 : decode b_Md_at 106 = .ok (.iaload, 1) := by decide +kernel
theorem d_Md_at_107 : decode b_Md_at 107 = .ok (.iadd, 1) := by decide +kernel
theorem d_Md_at_108 : decode b_Md_at 108 = .ok (.istore 4, 2) := by decide +kernel
theorem d_Md_at_110 : decode b_Md_at 110 = .ok (.iinc 5 1, 3) := by decide +kernel
theorem d_Md_at_113 : decode b_Md_at 113 = .ok (.goto (-42), 3) := by decide +kernel
theorem d_Md_at_116 : decode b_Md_at 116 = .ok (.iload_n 2, 1) := by decide +kernel
theorem d_Md_at_117 : decode b_Md_at 117 = .ok (.ifCond .ne 12, 3) := by decide +kernel
theorem d_Md_at_120 : decode b_Md_at 120 = .ok (.aload_n 0, 1) := by decide +kernel
theorem d_Md_at_121 : decode b_Md_at 121 = .ok (.getfield 68, 3) := by decide +kernel
theorem d_Md_at_124 : decode b_Md_at 124 = .ok (.iload_n 1, 1) := by decide +kernel
theorem d_Md_at_125 : decode b_Md_at 125 = .ok (.iaload, 1) := by decide +kernel
theorem d_Md_at_126 : decode b_Md_at 126 = .ok (.goto 28, 3) := by decide +kernel
theorem d_Md_at_129 : decode b_Md_at 129 = .ok (.iload_n 2, 1) := by decide +kernel
theorem d_Md_at_130 : decode b_Md_at 130 = .ok (.iconst 1, 1) := by decide +kernel
theorem d_Md_at_131 : decode b_Md_at 131 = .ok (.if_icmp .ne 7, 3) := by decide +kernel
theorem d_Md_at_134 : decode b_Md_at 134 = .ok (.iload_n 3, 1) := by decide +kernel
theorem d_Md_at_135 : decode b_Md_at 135 = .ok (.goto 19, 3) := by decide +kernel
theorem d_Md_at_138 : decode b_Md_at 138 = .ok (.iload_n 2, 1) := by decide +kernel
theorem d_Md_at_139 : decode b_Md_at 139 = .ok (.iconst 2, 1) := by decide +kernel
theorem d_Md_at_140 : decode b_Md_at 140 = .ok (.if_icmp .ne 12, 3) := by decide +kernel
theorem d_Md_at_143 : decode b_Md_at 143 = .ok (.aload_n 0, 1) := by decide +kernel
theorem d_Md_at_144 : decode b_Md_at 144 = .ok (.getfield 47, 3) := by decide +kernel
theorem d_Md_at_147 : decode b_Md_at 147 = .ok (.iload_n 1, 1) := by decide +kernel
theorem d_Md_at_148 : decode b_Md_at 148 = .ok (.iaload, 1) := by decide +kernel
theorem d_Md_at_149 : decode b_Md_at 149 = .ok (.goto 5, 3) := by decide +kernel
theorem d_Md_at_152 : decode b_Md_at 152 = .ok (.iload 4, 2) := by decide +kernel
theorem d_Md_at_154 : decode b_Md_at 154 = .ok (.ireturn, 1) := by decide +kernel
theorem d_Md_gramsOf_0 : decode b_Md_gramsOf 0 = .ok (.iconst 0, 1) := by decide +kernel
theorem d_Md_gramsOf_1 : decode b_Md_gramsOf 1 = .ok (.istore_n 2, 1) := by decide +kernel
theorem d_Md_gramsOf_2 : decode b_Md_gramsOf 2 = .ok (.iconst 0, 1) := by decide +kernel
theorem d_Md_gramsOf_3 : decode b_Md_gramsOf 3 = .ok (.istore_n 3, 1) := by decide +kernel
theorem d_Md_gramsOf_4 : decode b_Md_gramsOf 4 = .ok (.iload_n 3, 1) := by decide +kernel
theorem d_Md_gramsOf_5 : decode b_Md_gramsOf 5 = .ok (.aload_n 0, 1) := by decide +kernel
theorem d_Md_gramsOf_6 : decode b_Md_gramsOf 6 = .ok (.getfield 113, 3) := by decide +kernel
theorem d_Md_gramsOf_9 : decode b_Md_gramsOf 9 = .ok (.if_icmp .ge 31, 3) := by decide +kernel
theorem d_Md_gramsOf_12 : decode b_Md_gramsOf 12 = .ok (.iload_n 2, 1) := by decide +kernel
theorem d_Md_gramsOf_13 : decode b_Md_gramsOf 13 = .ok (.aload_n 0, 1) := by decide +kernel
theorem d_Md_gramsOf_14 : decode b_Md_gramsOf 14 = .ok (.iload_n 1, 1) := by decide +kernel
theorem d_Md_gramsOf_15 : decode b_Md_gramsOf 15 = .ok (.iload_n 3, 1) := by decide +kernel
theorem d_Md_gramsOf_16 : decode b_Md_gramsOf 16 = .ok (.invokevirtual 123, 3) := by decide +kernel
theorem d_Md_gramsOf_19 : decode b_Md_gramsOf 19 = .ok (.ifCond .eq 12, 3) := by decide +kernel
theorem d_Md_gramsOf_22 : decode b_Md_gramsOf 22 = .ok (.aload_n 0, 1) := by decide +kernel
theorem d_Md_gramsOf_23 : decode b_Md_gramsOf 23 = .ok (.getfield 34, 3) := by decide +kernel
theorem d_Md_gramsOf_26 : decode b_Md_gramsOf 26 = .ok (.iload_n 3, 1) := by decide +kernel
theorem d_Md_gramsOf_27 : decode b_Md_gramsOf 27 = .ok (.iaload, 1) := by decide +kernel
theorem d_Md_gramsOf_28 : decode b_Md_gramsOf 28 = .ok (.goto 4, 3) := by decide +kernel
theorem d_Md_gramsOf_31 : decode b_Md_gramsOf 31 = .ok (.iconst 0, 1) := by decide +kernel
theorem d_Md_gramsOf_32 : decode b_Md_gramsOf 32 = .ok (.iadd, 1) := by decide +kernel
theorem d_Md_gramsOf_33 : decode b_Md_gramsOf 33 = .ok (.istore_n 2, 1) := by decide +kernel
theorem d_Md_gramsOf_34 : decode b_Md_gramsOf 34 = .ok (.iinc 3 1, 3) := by decide +kernel
theorem d_Md_gramsOf_37 : decode b_Md_gramsOf 37 = .ok (.goto (-33), 3) := by decide +kernel
theorem d_Md_gramsOf_40 : decode b_Md_gramsOf 40 = .ok (.iload_n 2, 1) := by decide +kernel
theorem d_Md_gramsOf_41 : decode b_Md_gramsOf 41 = .ok (.ireturn, 1) := by decide +kernel
theorem d_Md_box_0 : decode b_Md_box 0 = .ok (.aload_n 0, 1) := by decide +kernel
theorem d_Md_box_1 : decode b_Md_box 1 = .ok (.aload_n 0, 1) := by decide +kernel
theorem d_Md_box_2 : decode b_Md_box 2 = .ok (.getfield 108, 3) := by decide +kernel
theorem d_Md_box_5 : decode b_Md_box 5 = .ok (.ifCond .ne 7, 3) := by decide +kernel
theorem d_Md_box_8 : decode b_Md_box 8 = .ok (.iconst 1, 1) := by decide +kernel
theorem d_Md_box_9 : decode b_Md_box 9 = .ok (.goto 31, 3) := by decide +kernel
theorem d_Md_box_12 : decode b_Md_box 12 = .ok (.iload_n 1, 1) := by decide +kernel
theorem d_Md_box_13 : decode b_Md_box 13 = .ok (.iconst 0, 1) := by decide +kernel
theorem d_Md_box_14 : decode b_Md_box 14 = .ok (.aload_n 0, 1) := by decide +kernel
theorem d_Md_box_15 : decode b_Md_box 15 = .ok (.getfield 141, 3) := by decide +kernel
theorem d_Md_box_18 : decode b_Md_box 18 = .ok (.iconst 1, 1) := by decide +kernel
theorem d_Md_box_19 : decode b_Md_box 19 = .ok (.isub, 1) := by decide +kernel
theorem d_Md_box_20 : decode b_Md_box 20 = .ok (.invokestatic 96, 3) := by decide +kernel
theorem d_Md_box_23 : decode b_Md_box 23 = .ok (.ifCond .eq 12, 3) := by decide +kernel
theorem d_Md_box_26 : decode b_Md_box 26 = .ok (.iload_n 2, 1) := by decide +kernel
theorem d_Md_box_27 : decode b_Md_box 27 = .ok (.iconst 0, 1) := by decide +kernel
theorem d_Md_box_28 : decode b_Md_box 28 = .ok (.iconst 4, 1) := by decide +kernel
theorem d_Md_box_29 : decode b_Md_box 29 = .ok (.invokestatic 96, 3) := by decide +kernel
theorem d_Md_box_32 : decode b_Md_box 32 = .ok (.ifCond .ne 7, 3) := by decide +kernel
theorem d_Md_box_35 : decode b_Md_box 35 = .ok (.iconst 2, 1) := by decide +kernel
theorem d_Md_box_36 : decode b_Md_box 36 = .ok (.goto 4, 3) := by decide +kernel
theorem d_Md_box_39 : decode b_Md_box 39 = .ok (.iconst 0, 1) := by decide +kernel
theorem d_Md_box_40 : decode b_Md_box 40 = .ok (.putfield 93, 3) := by decide +kernel
theorem d_Md_box_43 : decode b_Md_box 43 = .ok (.aload_n 0, 1) := by decide +kernel
theorem d_Md_box_44 : decode b_Md_box 44 = .ok (.getfield 93, 3) := by decide +kernel
theorem d_Md_box_47 : decode b_Md_box 47 = .ok (.ifCond .le 5, 3) := by decide +kernel
theorem d_Md_box_50 : decode b_Md_box 50 = .ok (.iconst 0, 1) := by decide +kernel
theorem d_Md_box_51 : decode b_Md_box 51 = .ok (.ireturn, 1) := by decide +kernel
theorem d_Md_box_52 : decode b_Md_box 52 = .ok (.aload_n 0, 1) := by decide +kernel
theorem d_Md_box_53 : decode b_Md_box 53 = .ok (.iload_n 1, 1) := by decide +kernel
theorem d_Md_box_54 : decode b_Md_box 54 = .ok (.invokevirtual 155, 3) := by decide +kernel
theorem d_Md_box_57 : decode b_Md_box 57 = .ok (.istore_n 3, 1) := by decide +kernel
theorem d_Md_box_58 : decode b_Md_box 58 = .ok (.iconst 0, 1) := by decide +kernel
theorem d_Md_box_59 : decode b_Md_box 59 = .ok (.istore 4, 2) := by decide +kernel
theorem d_Md_box_61 : decode b_Md_box 61 = .ok (.iconst 0, 1) := by decide +kernel
theorem d_Md_box_62 : decode b_Md_box 62 = .ok (.istore 5, 2) := by decide +kernel
theorem d_Md_box_64 : decode b_Md_box 64 = .ok (.iload 5, 2) := by decide +kernel
theorem d_Md_box_66 : decode b_Md_box 66 = .ok (.aload_n 0, 1) := by decide +kernel
theorem d_Md_box_67 : decode b_Md_box 67 = .ok (.getfield 113, 3) := by decide +kernel
theorem d_Md_box_70 : decode b_Md_box 70 = .ok (.if_icmp .ge 30, 3) := by decide +kernel
theorem d_Md_box_73 : decode b_Md_box 73 = .ok (.iload 4, 2) := by decide +kernel
theorem d_Md_box_75 : decode b_Md_box 75 = .ok (.aload_n 0, 1) := by decide +kernel
theorem d_Md_box_76 : decode b_Md_box 76 = .ok (.getfield 68, 3) := by decide +kernel
theorem d_Md_box_79 : decode b_Md_box 79 = .ok (.iload 5, 2) := by decide +kernel
theorem d_Md_box_81 : decode b_Md_box 81 = .ok (.iaload, 1) := by decide +kernel
theorem d_Md_box_82 : decode b_Md_box 82 = .ok (.iload_n 1, 1) := by decide +kernel
theorem d_Md_box_83 : decode b_Md_box 83 = .ok (.if_icmp .ne 7, 3) := by decide +kernel
theorem d_Md_box_86 : decode b_Md_box 86 = .ok (.iconst 1, 1) := by decide +kernel
theorem d_Md_box_87 : decode b_Md_box 87 = .ok (.goto 4, 3) := by decide +kernel
theorem d_Md_box_90 : decode b_Md_box 90 = .ok (.iconst 0, 1) := by decide +kernel
theorem d_Md_box_91 : decode b_Md_box 91 = .ok (.iadd, 1) := by decide +kernel
theorem d_Md_box_92 : decode b_Md_box 92 = .ok (.istore 4, 2) := by decide +kernel
theorem d_Md_box_94 : decode b_Md_box 94 = .ok (.iinc 5 1, 3) := by decide +kernel
theorem d_Md_box_97 : decode b_Md_box 97 = .ok (.goto (-33), 3) := by decide +kernel
theorem d_Md_box_100 : decode b_Md_box 100 = .ok (.iload_n 2, 1) := by decide +kernel
theorem d_Md_box_101 : decode b_Md_box 101 = .ok (.ifCond .ne 7, 3) := by decide +kernel
theorem d_Md_box_104 : decode b_Md_box 104 = .ok (.iload_n 3, 1) := by decide +kernel
theorem d_Md_box_105 : decode b_Md_box 105 = .ok (.goto 47, 3) := by decide +kernel
theorem d_Md_box_108 : decode b_Md_box 108 = .ok (.iload_n 2, 1) := by decide +kernel
theorem d_Md_box_109 : decode b_Md_box 109 = .ok (.iconst 1, 1) := by decide +kernel
theorem d_Md_box_110 : decode b_Md_box 110 = .ok (.if_icmp .ne 8, 3) := by decide +kernel
theorem d_Md_box_113 : decode b_Md_box 113 = .ok (.iload 4, 2) := by decide +kernel
theorem d_Md_box_115 : decode b_Md_box 115 = .ok (.goto 37, 3) := by decide +kernel
theorem d_Md_box_118 : decode b_Md_box 118 = .ok (.iload_n 2, 1) := by decide +kernel
theorem d_Md_box_119 : decode b_Md_box 119 = .ok (.iconst 2, 1) := by decide +kernel
theorem d_Md_box_120 : decode b_Md_box 120 = .ok (.if_icmp .ne 16, 3) := by decide +kernel
theorem d_Md_box_123 : decode b_Md_box 123 = .ok (.aload_n 0, 1) := by decide +kernel
theorem d_Md_box_124 : decode b_Md_box 124 = .ok (.aload_n 0, 1) := by decide +kernel
theorem d_Md_box_125 : decode b_Md_box 125 = .ok (.getfield 74, 3) := by decide +kernel
theorem d_Md_box_128 : decode b_Md_box 128 = .ok (.iload_n 1, 1) := by decide +kernel
theorem d_Md_box_129 : decode b_Md_box 129 = .ok (.iaload, 1) := by decide +kernel
theorem d_Md_box_130 : decode b_Md_box 130 = .ok (.invokevirtual 161, 3) := by decide +kernel
theorem d_Md_box_133 : decode b_Md_box 133 = .ok (.goto 19, 3) := by decide +kernel
theorem d_Md_box_136 : decode b_Md_box 136 = .ok (.iload_n 2, 1) := by decide +kernel
theorem d_Md_box_137 : decode b_Md_box 137 = .ok (.iconst 3, 1) := by decide +kernel
theorem d_Md_box_138 : decode b_Md_box 138 = .ok (.if_icmp .ne 10, 3) := by decide +kernel
theorem d_Md_box_141 : decode b_Md_box 141 = .ok (.aload_n 0, 1) := by decide +kernel
theorem d_Md_box_142 : decode b_Md_box 142 = .ok (.getfield 116, 3) := by decide +kernel
theorem d_Md_box_145 : decode b_Md_box 145 = .ok (.goto 7, 3) := by decide +kernel
theorem d_Md_box_148 : decode b_Md_box 148 = .ok (.aload_n 0, 1) := by decide +kernel
theorem d_Md_box_149 : decode b_Md_box 149 = .ok (.invokevirtual 131, 3) := by decide +kernel
theorem d_Md_box_152 : decode b_Md_box 152 = .ok (.ireturn, 1) := by decide +kernel
theorem d_Md_cost_0 : decode b_Md_cost 0 = .ok (.aload_n 0, 1) := by decide +kernel
theorem d_Md_cost_1 : decode b_Md_cost 1 = .ok (.aload_n 0, 1) := by decide +kernel
theorem d_Md_cost_2 : decode b_Md_cost 2 = .ok (.getfield 108, 3) := by decide +kernel
theorem d_Md_cost_5 : decode b_Md_cost 5 = .ok (.ifCond .eq 7, 3) := by decide +kernel
theorem d_Md_cost_8 : decode b_Md_cost 8 = .ok (.iconst 0, 1) := by decide +kernel
theorem d_Md_cost_9 : decode b_Md_cost 9 = .ok (.goto 4, 3) := by decide +kernel
theorem d_Md_cost_12 : decode b_Md_cost 12 = .ok (.iconst 1, 1) := by decide +kernel
theorem d_Md_cost_13 : decode b_Md_cost 13 = .ok (.putfield 93, 3) := by decide +kernel
theorem d_Md_cost_16 : decode b_Md_cost 16 = .ok (.aload_n 0, 1) := by decide +kernel
theorem d_Md_cost_17 : decode b_Md_cost 17 = .ok (.getfield 93, 3) := by decide +kernel
theorem d_Md_cost_20 : decode b_Md_cost 20 = .ok (.ifCond .le 7, 3) := by decide +kernel
theorem d_Md_cost_23 : decode b_Md_cost 23 = .ok (.iconst 0, 1) := by decide +kernel
theorem d_Md_cost_24 : decode b_Md_cost 24 = .ok (.goto 15, 3) := by decide +kernel
theorem d_Md_cost_27 : decode b_Md_cost 27 = .ok (.aload_n 0, 1) := by decide +kernel
theorem d_Md_cost_28 : decode b_Md_cost 28 = .ok (.aload_n 0, 1) := by decide +kernel
theorem d_Md_cost_29 : decode b_Md_cost 29 = .ok (.aload_n 0, 1) := by decide +kernel
theorem d_Md_cost_30 : decode b_Md_cost 30 = .ok (.getfield 68, 3) := by decide +kernel
theorem d_Md_cost_33 : decode b_Md_cost 33 = .ok (.invokevirtual 144, 3) := by decide +kernel
theorem d_Md_cost_36 : decode b_Md_cost 36 = .ok (.invokevirtual 148, 3) := by decide +kernel
theorem d_Md_cost_39 : decode b_Md_cost 39 = .ok (.ireturn, 1) := by decide +kernel
theorem d_Md_manual_0 : decode b_Md_manual 0 = .ok (.aload_n 0, 1) := by decide +kernel
theorem d_Md_manual_1 : decode b_Md_manual 1 = .ok (.iload_n 1, 1) := by decide +kernel
theorem d_Md_manual_2 : decode b_Md_manual 2 = .ok (.iconst 0, 1) := by decide +kernel
theorem d_Md_manual_3 : decode b_Md_manual 3 = .ok (.aload_n 0, 1) := by decide +kernel
theorem d_Md_manual_4 : decode b_Md_manual 4 = .ok (.getfield 113, 3) := by decide +kernel
theorem d_Md_manual_7 : decode b_Md_manual 7 = .ok (.iconst 1, 1) := by decide +kernel
theorem d_Md_manual_8 : decode b_Md_manual 8 = .ok (.isub, 1) := by decide +kernel
theorem d_Md_manual_9 : decode b_Md_manual 9 = .ok (.invokestatic 96, 3) := by decide +kernel
theorem d_Md_manual_12 : decode b_Md_manual 12 = .ok (.ifCond .eq 7, 3) := by decide +kernel
theorem d_Md_manual_15 : decode b_Md_manual 15 = .ok (.iconst 0, 1) := by decide +kernel
theorem d_Md_manual_16 : decode b_Md_manual 16 = .ok (.goto 4, 3) := by decide +kernel
theorem d_Md_manual_19 : decode b_Md_manual 19 = .ok (.iconst 1, 1) := by decide +kernel
theorem d_Md_manual_20 : decode b_Md_manual 20 = .ok (.putfield 93, 3) := by decide +kernel
theorem d_Md_manual_23 : decode b_Md_manual 23 = .ok (.iconst 0, 1) := by decide +kernel
theorem d_Md_manual_24 : decode b_Md_manual 24 = .ok (.istore_n 2, 1) := by decide +kernel
theorem d_Md_manual_25 : decode b_Md_manual 25 = .ok (.iload_n 2, 1) := by decide +kernel
theorem d_Md_manual_26 : decode b_Md_manual 26 = .ok (.aload_n 0, 1) := by decide +kernel
theorem d_Md_manual_27 : decode b_Md_manual 27 = .ok (.getfield 113, 3) := by decide +kernel
theorem d_Md_manual_30 : decode b_Md_manual 30 = .ok (.if_icmp .ge 89, 3) := by decide +kernel
theorem d_Md_manual_33 : decode b_Md_manual 33 = .ok (.aload_n 0, 1) := by decide +kernel
theorem d_Md_manual_34 : decode b_Md_manual 34 = .ok (.getfield 93, 3) := by decide +kernel
theorem d_Md_manual_37 : decode b_Md_manual 37 = .ok (.ifCond .ne 82, 3) := by decide +kernel
theorem d_Md_manual_40 : decode b_Md_manual 40 = .ok (.iconst 0, 1) := by decide +kernel
theorem d_Md_manual_41 : decode b_Md_manual 41 = .ok (.istore_n 3, 1) := by decide +kernel
theorem d_Md_manual_42 : decode b_Md_manual 42 = .ok (.iconst 0, 1) := by decide +kernel
theorem d_Md_manual_43 : decode b_Md_manual 43 = .ok (.istore 4, 2) := by decide +kernel
theorem d_Md_manual_45 : decode b_Md_manual 45 = .ok (.iload 4, 2) := by decide +kernel
theorem d_Md_manual_47 : decode b_Md_manual 47 = .ok (.aload_n 0, 1) := by decide +kernel
theorem d_Md_manual_48 : decode b_Md_manual 48 = .ok (.getfield 113, 3) := by decide +kernel
theorem d_Md_manual_51 : decode b_Md_manual 51 = .ok (.if_icmp .ge 55, 3) := by decide +kernel
theorem d_Md_manual_54 : decode b_Md_manual 54 = .ok (.iload_n 3, 1) := by decide +kernel
theorem d_Md_manual_55 : decode b_Md_manual 55 = .ok (.aload_n 0, 1) := by decide +kernel
theorem d_Md_manual_56 : decode b_Md_manual 56 = .ok (.getfield 37, 3) := by decide +kernel
theorem d_Md_manual_59 : decode b_Md_manual 59 = .ok (.iload 4, 2) := by decide +kernel
theorem d_Md_manual_61 : decode b_Md_manual 61 = .ok (.iaload, 1) := by decide +kernel
theorem d_Md_manual_62 : decode b_Md_manual 62 = .ok (.aload_n 0, 1) := by decide +kernel
theorem d_Md_manual_63 : decode b_Md_manual 63 = .ok (.getfield 37, 3) := by decide +kernel
theorem d_Md_manual_66 : decode b_Md_manual 66 = .ok (.iload_n 2, 1) := by decide +kernel
theorem d_Md_manual_67 : decode b_Md_manual 67 = .ok (.iaload, 1) := by decide +kernel
theorem d_Md_manual_68 : decode b_Md_manual 68 = .ok (.if_icmp .lt 25, 3) := by decide +kernel
theorem d_Md_manual_71 : decode b_Md_manual 71 = .ok (.aload_n 0, 1) := by decide +kernel
theorem d_Md_manual_72 : decode b_Md_manual 72 = .ok (.getfield 37, 3) := by decide +kernel
theorem d_Md_manual_75 : decode b_Md_manual 75 = .ok (.iload 4, 2) := by decide +kernel
theorem d_Md_manual_77 : decode b_Md_manual 77 = .ok (.iaload, 1) := by decide +kernel
theorem d_Md_manual_78 : decode b_Md_manual 78 = .ok (.aload_n 0, 1) := by decide +kernel
theorem d_Md_manual_79 : decode b_Md_manual 79 = .ok (.getfield 37, 3) := by decide +kernel
theorem d_Md_manual_82 : decode b_Md_manual 82 = .ok (.iload_n 2, 1) := by decide +kernel
theorem d_Md_manual_83 : decode b_Md_manual 83 = .ok (.iaload, 1) := by decide +kernel
theorem d_Md_manual_84 : decode b_Md_manual 84 = .ok (.if_icmp .ne 13, 3) := by decide +kernel
theorem d_Md_manual_87 : decode b_Md_manual 87 = .ok (.iload 4, 2) := by decide +kernel
theorem d_Md_manual_89 : decode b_Md_manual 89 = .ok (.iload_n 2, 1) := by decide +kernel
theorem d_Md_manual_90 : decode b_Md_manual 90 = .ok (.if_icmp .ge 7, 3) := by decide +kernel
theorem d_Md_manual_93 : decode b_Md_manual 93 = .ok (.iconst 1, 1) := by decide +kernel
theorem d_Md_manual_94 : decode b_Md_manual 94 = .ok (.goto 4, 3) := by decide +kernel
theorem d_Md_manual_97 : decode b_Md_manual 97 = .ok (.iconst 0, 1) := by decide +kernel
theorem d_Md_manual_98 : decode b_Md_manual 98 = .ok (.iadd, 1) := by decide +kernel
theorem d_Md_manual_99 : decode b_Md_manual 99 = .ok (.istore_n 3, 1) := by decide +kernel
theorem d_Md_manual_100 : decode b_Md_manual 100 = .ok (.iinc 4 1, 3) := by decide +kernel
theorem d_Md_manual_103 : decode b_Md_manual 103 = .ok (.goto (-58), 3) := by decide +kernel
theorem d_Md_manual_106 : decode b_Md_manual 106 = .ok (.iload_n 3, 1) := by decide +kernel
theorem d_Md_manual_107 : decode b_Md_manual 107 = .ok (.iload_n 1, 1) := by decide +kernel
theorem d_Md_manual_108 : decode b_Md_manual 108 = .ok (.if_icmp .ne 5, 3) := by decide +kernel
theorem d_Md_manual_111 : decode b_Md_manual 111 = .ok (.iload_n 2, 1) := by decide +kernel
theorem d_Md_manual_112 : decode b_Md_manual 112 = .ok (.ireturn, 1) := by decide +kernel
theorem d_Md_manual_113 : decode b_Md_manual 113 = .ok (.iinc 2 1, 3) := by decide +kernel
theorem d_Md_manual_116 : decode b_Md_manual 116 = .ok (.goto (-91), 3) := by decide +kernel
theorem d_Md_manual_119 : decode b_Md_manual 119 = .ok (.iconst 0, 1) := by decide +kernel
theorem d_Md_manual_120 : decode b_Md_manual 120 = .ok (.ireturn, 1) := by decide +kernel
theorem d_Md_bag_0 : decode b_Md_bag 0 = .ok (.aload_n 0, 1) := by decide +kernel
theorem d_Md_bag_1 : decode b_Md_bag 1 = .ok (.aload_n 0, 1) := by decide +kernel
theorem d_Md_bag_2 : decode b_Md_bag 2 = .ok (.getfield 164, 3) := by decide +kernel
theorem d_Md_bag_5 : decode b_Md_bag 5 = .ok (.iconst 4, 1) := by decide +kernel
theorem d_Md_bag_6 : decode b_Md_bag 6 = .ok (.if_icmp .ne 7, 3) := by decide +kernel
theorem d_Md_bag_9 : decode b_Md_bag 9 = .ok (.iconst 1, 1) := by decide +kernel
theorem d_Md_bag_10 : decode b_Md_bag 10 = .ok (.goto 4, 3) := by decide +kernel
theorem d_Md_bag_13 : decode b_Md_bag 13 = .ok (.iconst 0, 1) := by decide +kernel
theorem d_Md_bag_14 : decode b_Md_bag 14 = .ok (.putfield 93, 3) := by decide +kernel
theorem d_Md_bag_17 : decode b_Md_bag 17 = .ok (.aload_n 0, 1) := by decide +kernel
theorem d_Md_bag_18 : decode b_Md_bag 18 = .ok (.getfield 93, 3) := by decide +kernel
theorem d_Md_bag_21 : decode b_Md_bag 21 = .ok (.ifCond .le 5, 3) := by decide +kernel
theorem d_Md_bag_24 : decode b_Md_bag 24 = .ok (.iconst 0, 1) := by decide +kernel
theorem d_Md_bag_25 : decode b_Md_bag 25 = .ok (.ireturn, 1) := by decide +kernel
theorem d_Md_bag_26 : decode b_Md_bag 26 = .ok (.aload_n 0, 1) := by decide +kernel
theorem d_Md_bag_27 : decode b_Md_bag 27 = .ok (.dup, 1) := by decide +kernel
theorem d_Md_bag_28 : decode b_Md_bag 28 = .ok (.getfield 164, 3) := by decide +kernel
theorem d_Md_bag_31 : decode b_Md_bag 31 = .ok (.iconst 1, 1) := by decide +kernel
theorem d_Md_bag_32 : decode b_Md_bag 32 = .ok (.iadd, 1) := by decide +kernel
theorem d_Md_bag_33 : decode b_Md_bag 33 = .ok (.putfield 164, 3) := by decide +kernel
theorem d_Md_bag_36 : decode b_Md_bag 36 = .ok (.aload_n 0, 1) := by decide +kernel
theorem d_Md_bag_37 : decode b_Md_bag 37 = .ok (.getfield 164, 3) := by decide +kernel
theorem d_Md_bag_40 : decode b_Md_bag 40 = .ok (.iconst 1, 1) := by decide +kernel
theorem d_Md_bag_41 : decode b_Md_bag 41 = .ok (.isub, 1) := by decide +kernel
theorem d_Md_bag_42 : decode b_Md_bag 42 = .ok (.ireturn, 1) := by decide +kernel
theorem d_Md_into_0 : decode b_Md_into 0 = .ok (.iload_n 2, 1) := by decide +kernel
theorem d_Md_into_1 : decode b_Md_into 1 = .ok (.iconst 0, 1) := by decide +kernel
theorem d_Md_into_2 : decode b_Md_into 2 = .ok (.sipush 1000, 3) := by decide +kernel
theorem d_Md_into_5 : decode b_Md_into 5 = .ok (.invokestatic 96, 3) := by decide +kernel
theorem d_Md_into_8 : decode b_Md_into 8 = .ok (.ifCond .eq 28, 3) := by decide +kernel
theorem d_Md_into_11 : decode b_Md_into 11 = .ok (.iload_n 3, 1) := by decide +kernel
theorem d_Md_into_12 : decode b_Md_into 12 = .ok (.iconst 1, 1) := by decide +kernel
theorem d_Md_into_13 : decode b_Md_into 13 = .ok (.sipush 1000, 3) := by decide +kernel
theorem d_Md_into_16 : decode b_Md_into 16 = .ok (.invokestatic 96, 3) := by decide +kernel
theorem d_Md_into_19 : decode b_Md_into 19 = .ok (.ifCond .eq 17, 3) := by decide +kernel
theorem d_Md_into_22 : decode b_Md_into 22 = .ok (.iload 4, 2) := by decide +kernel
theorem d_Md_into_24 : decode b_Md_into 24 = .ok (.iconst 0, 1) := by decide +kernel
theorem d_Md_into_25 : decode b_Md_into 25 = .ok (.iload_n 3, 1) := by decide +kernel
theorem d_Md_into_26 : decode b_Md_into 26 = .ok (.invokestatic 96, 3) := by decide +kernel
theorem d_Md_into_29 : decode b_Md_into 29 = .ok (.ifCond .eq 7, 3) := by decide +kernel
theorem d_Md_into_32 : decode b_Md_into 32 = .ok (.iconst 1, 1) := by decide +kernel
theorem d_Md_into_33 : decode b_Md_into 33 = .ok (.goto 4, 3) := by decide +kernel
theorem d_Md_into_36 : decode b_Md_into 36 = .ok (.iconst 0, 1) := by decide +kernel
theorem d_Md_into_37 : decode b_Md_into 37 = .ok (.istore 5, 2) := by decide +kernel
theorem d_Md_into_39 : decode b_Md_into 39 = .ok (.aload_n 0, 1) := by decide +kernel
theorem d_Md_into_40 : decode b_Md_into 40 = .ok (.iload_n 1, 1) := by decide +kernel
theorem d_Md_into_41 : decode b_Md_into 41 = .ok (.iconst 0, 1) := by decide +kernel
theorem d_Md_into_42 : decode b_Md_into 42 = .ok (.aload_n 0, 1) := by decide +kernel
theorem d_Md_into_43 : decode b_Md_into 43 = .ok (.getfield 164, 3) := by decide +kernel
theorem d_Md_into_46 : decode b_Md_into 46 = .ok (.iconst 1, 1) := by decide +kernel
theorem d_Md_into_47 : decode b_Md_into 47 = .ok (.isub, 1) := by decide +kernel
theorem d_Md_into_48 : decode b_Md_into 48 = .ok (.invokestatic 96, 3) := by decide +kernel
theorem d_Md_into_51 : decode b_Md_into 51 = .ok (.ifCond .ne 7, 3) := by decide +kernel
theorem d_Md_into_54 : decode b_Md_into 54 = .ok (.iconst 1, 1) := by decide +kernel
theorem d_Md_into_55 : decode b_Md_into 55 = .ok (.goto 28, 3) := by decide +kernel
theorem d_Md_into_58 : decode b_Md_into 58 = .ok (.iload 5, 2) := by decide +kernel
theorem d_Md_into_60 : decode b_Md_into 60 = .ok (.ifCond .ne 7, 3) := by decide +kernel
theorem d_Md_into_63 : decode b_Md_into 63 = .ok (.iconst 2, 1) := by decide +kernel
theorem d_Md_into_64 : decode b_Md_into 64 = .ok (.goto 19, 3) := by decide +kernel
theorem d_Md_into_67 : decode b_Md_into 67 = .ok (.aload_n 0, 1) := by decide +kernel
theorem d_Md_into_68 : decode b_Md_into 68 = .ok (.getfield 77, 3) := by decide +kernel
theorem d_Md_into_71 : decode b_Md_into 71 = .ok (.iload_n 1, 1) := by decide +kernel
theorem d_Md_into_72 : decode b_Md_into 72 = .ok (.iaload, 1) := by decide +kernel
theorem d_Md_into_73 : decode b_Md_into 73 = .ok (.bipush 6, 2) := by decide +kernel
theorem d_Md_into_75 : decode b_Md_into 75 = .ok (.if_icmp .ne 7, 3) := by decide +kernel
theorem d_Md_into_78 : decode b_Md_into 78 = .ok (.iconst 3, 1) := by decide +kernel
theorem d_Md_into_79 : decode b_Md_into 79 = .ok (.goto 4, 3) := by decide +kernel
theorem d_Md_into_82 : decode b_Md_into 82 = .ok (.iconst 0, 1) := by decide +kernel
theorem d_Md_into_83 : decode b_Md_into 83 = .ok (.putfield 93, 3) := by decide +kernel
theorem d_Md_into_86 : decode b_Md_into 86 = .ok (.aload_n 0, 1) := by decide +kernel
theorem d_Md_into_87 : decode b_Md_into 87 = .ok (.getfield 93, 3) := by decide +kernel
theorem d_Md_into_90 : decode b_Md_into 90 = .ok (.ifCond .le 5, 3) := by decide +kernel
theorem d_Md_into_93 : decode b_Md_into 93 = .ok (.iconst 0, 1) := by decide +kernel
theorem d_Md_into_94 : decode b_Md_into 94 = .ok (.ireturn, 1) := by decide +kernel
theorem d_Md_into_95 : decode b_Md_into 95 = .ok (.bipush 6, 2) := by decide +kernel
theorem d_Md_into_97 : decode b_Md_into 97 = .ok (.iload_n 1, 1) := by decide +kernel
theorem d_Md_into_98 : decode b_Md_into 98 = .ok (.imul, 1) := by decide +kernel
theorem d_Md_into_99 : decode b_Md_into 99 = .ok (.aload_n 0, 1) := by decide +kernel
theorem d_Md_into_100 : decode b_Md_into 100 = .ok (.getfield 77, 3) := by decide +kernel
theorem d_Md_into_103 : decode b_Md_into 103 = .ok (.iload_n 1, 1) := by decide +kernel
theorem d_Md_into_104 : decode b_Md_into 104 = .ok (.iaload, 1) := by decide +kernel
theorem d_Md_into_105 : decode b_Md_into 105 = .ok (.iadd, 1) := by decide +kernel
theorem d_Md_into_106 : decode b_Md_into 106 = .ok (.istore 6, 2) := by decide +kernel
theorem d_Md_into_108 : decode b_Md_into 108 = .ok (.aload_n 0, 1) := by decide +kernel
theorem d_Md_into_109 : decode b_Md_into 109 = .ok (.getfield 80, 3) := by decide +kernel
theorem d_Md_into_112 : decode b_Md_into 112 = .ok (.iload 6, 2) := by decide +kernel
theorem d_Md_into_114 : decode b_Md_into 114 = .ok (.iload_n 2, 1) := by decide +kernel
theorem d_Md_into_115 : decode b_Md_into 115 = .ok (.iastore, 1) := by decide +kernel
theorem d_Md_into_116 : decode b_Md_into 116 = .ok (.aload_n 0, 1) := by decide +kernel
theorem d_Md_into_117 : decode b_Md_into 117 = .ok (.getfield 83, 3) := by decide +kernel
theorem d_Md_into_120 : decode b_Md_into 120 = .ok (.iload 6, 2) := by decide +kernel
theorem d_Md_into_122 : decode b_Md_into 122 = .ok (.iload_n 3, 1) := by decide +kernel
theorem d_Md_into_123 : decode b_Md_into 123 = .ok (.iastore, 1) := by decide +kernel
theorem d_Md_into_124 : decode b_Md_into 124 = .ok (.aload_n 0, 1) := by decide +kernel
theorem d_Md_into_125 : decode b_Md_into 125 = .ok (.getfield 86, 3) := by decide +kernel
theorem d_Md_into_128 : decode b_Md_into 128 = .ok (.iload 6, 2) := by decide +kernel
theorem d_Md_into_130 : decode b_Md_into 130 = .ok (.iload 4, 2) := by decide +kernel
theorem d_Md_into_132 : decode b_Md_into 132 = .ok (.iastore, 1) := by decide +kernel
theorem d_Md_into_133 : decode b_Md_into 133 = .ok (.aload_n 0, 1) := by decide +kernel
theorem d_Md_into_134 : decode b_Md_into 134 = .ok (.getfield 77, 3) := by decide +kernel
theorem d_Md_into_137 : decode b_Md_into 137 = .ok (.iload_n 1, 1) := by decide +kernel
theorem d_Md_into_138 : decode b_Md_into 138 = .ok (.dup2, 1) := by decide +kernel
theorem d_Md_into_139 : decode b_Md_into 139 = .ok (.iaload, 1) := by decide +kernel
theorem d_Md_into_140 : decode b_Md_into 140 = .ok (.iconst 1, 1) := by decide +kernel
theorem d_Md_into_141 : decode b_Md_into 141 = .ok (.iadd, 1) := by decide +kernel
theorem d_Md_into_142 : decode b_Md_into 142 = .ok (.iastore, 1) := by decide +kernel
theorem d_Md_into_143 : decode b_Md_into 143 = .ok (.aload_n 0, 1) := by decide +kernel
theorem d_Md_into_144 : decode b_Md_into 144 = .ok (.getfield 77, 3) := by decide +kernel
theorem d_Md_into_147 : decode b_Md_into 147 = .ok (.iload_n 1, 1) := by decide +kernel
theorem d_Md_into_148 : decode b_Md_into 148 = .ok (.iaload, 1) := by decide +kernel
theorem d_Md_into_149 : decode b_Md_into 149 = .ok (.ireturn, 1) := by decide +kernel
theorem d_Md_isWithin_0 : decode b_Md_isWithin 0 = .ok (.iload_n 0, 1) := by decide +kernel
theorem d_Md_isWithin_1 : decode b_Md_isWithin 1 = .ok (.iload_n 1, 1) := by decide +kernel
theorem d_Md_isWithin_2 : decode b_Md_isWithin 2 = .ok (.iload_n 2, 1) := by decide +kernel
theorem d_Md_isWithin_3 : decode b_Md_isWithin 3 = .ok (.isub, 1) := by decide +kernel
theorem d_Md_isWithin_4 : decode b_Md_isWithin 4 = .ok (.if_icmp .lt 14, 3) := by decide +kernel
theorem d_Md_isWithin_7 : decode b_Md_isWithin 7 = .ok (.iload_n 0, 1) := by decide +kernel
theorem d_Md_isWithin_8 : decode b_Md_isWithin 8 = .ok (.iload_n 1, 1) := by decide +kernel
theorem d_Md_isWithin_9 : decode b_Md_isWithin 9 = .ok (.iload_n 2, 1) := by decide +kernel
theorem d_Md_isWithin_10 : decode b_Md_isWithin 10 = .ok (.iadd, 1) := by decide +kernel
theorem d_Md_isWithin_11 : decode b_Md_isWithin 11 = .ok (.if_icmp .gt 7, 3) := by decide +kernel
theorem d_Md_isWithin_14 : decode b_Md_isWithin 14 = .ok (.iconst 1, 1) := by decide +kernel
theorem d_Md_isWithin_15 : decode b_Md_isWithin 15 = .ok (.goto 4, 3) := by decide +kernel
theorem d_Md_isWithin_18 : decode b_Md_isWithin 18 = .ok (.iconst 0, 1) := by decide +kernel
theorem d_Md_isWithin_19 : decode b_Md_isWithin 19 = .ok (.ireturn, 1) := by decide +kernel
theorem d_Md_counted_0 : decode b_Md_counted 0 = .ok (.aload_n 0, 1) := by decide +kernel
theorem d_Md_counted_1 : decode b_Md_counted 1 = .ok (.iload_n 1, 1) := by decide +kernel
theorem d_Md_counted_2 : decode b_Md_counted 2 = .ok (.iconst 0, 1) := by decide +kernel
theorem d_Md_counted_3 : decode b_Md_counted 3 = .ok (.aload_n 0, 1) := by decide +kernel
theorem d_Md_counted_4 : decode b_Md_counted 4 = .ok (.getfield 164, 3) := by decide +kernel
theorem d_Md_counted_7 : decode b_Md_counted 7 = .ok (.iconst 1, 1) := by decide +kernel
theorem d_Md_counted_8 : decode b_Md_counted 8 = .ok (.isub, 1) := by decide +kernel
theorem d_Md_counted_9 : decode b_Md_counted 9 = .ok (.invokestatic 96, 3) := by decide +kernel
theorem d_Md_counted_12 : decode b_Md_counted 12 = .ok (.ifCond .ne 7, 3) := by decide +kernel
theorem d_Md_counted_15 : decode b_Md_counted 15 = .ok (.iconst 1, 1) := by decide +kernel
theorem d_Md_counted_16 : decode b_Md_counted 16 = .ok (.goto 12, 3) := by decide +kernel
theorem d_Md_counted_19 : decode b_Md_counted 19 = .ok (.iload_n 2, 1) := by decide +kernel
theorem d_Md_counted_20 : decode b_Md_counted 20 = .ok (.ifCond .ge 7, 3) := by decide +kernel
theorem d_Md_counted_23 : decode b_Md_counted 23 = .ok (.iconst 2, 1) := by decide +kernel
theorem d_Md_counted_24 : decode b_Md_counted 24 = .ok (.goto 4, 3) := by decide +kernel
theorem d_Md_counted_27 : decode b_Md_counted 27 = .ok (.iconst 0, 1) := by decide +kernel
theorem d_Md_counted_28 : decode b_Md_counted 28 = .ok (.putfield 93, 3) := by decide +kernel
theorem d_Md_counted_31 : decode b_Md_counted 31 = .ok (.aload_n 0, 1) := by decide +kernel
theorem d_Md_counted_32 : decode b_Md_counted 32 = .ok (.getfield 93, 3) := by decide +kernel
theorem d_Md_counted_35 : decode b_Md_counted 35 = .ok (.ifCond .le 5, 3) := by decide +kernel
theorem d_Md_counted_38 : decode b_Md_counted 38 = .ok (.iconst 0, 1) := by decide +kernel
theorem d_Md_counted_39 : decode b_Md_counted 39 = .ok (.ireturn, 1) := by decide +kernel
theorem d_Md_counted_40 : decode b_Md_counted 40 = .ok (.iconst 0, 1) := by decide +kernel
theorem d_Md_counted_41 : decode b_Md_counted 41 = .ok (.istore_n 3, 1) := by decide +kernel
theorem d_Md_counted_42 : decode b_Md_counted 42 = .ok (.iconst 0, 1) := by decide +kernel
theorem d_Md_counted_43 : decode b_Md_counted 43 = .ok (.istore 4, 2) := by decide +kernel
theorem d_Md_counted_45 : decode b_Md_counted 45 = .ok (.bipush 6, 2) := by decide +kernel
theorem d_Md_counted_47 : decode b_Md_counted 47 = .ok (.iload_n 1, 1) := by decide +kernel
theorem d_Md_counted_48 : decode b_Md_counted 48 = .ok (.imul, 1) := by decide +kernel
theorem d_Md_counted_49 : decode b_Md_counted 49 = .ok (.istore 5, 2) := by decide +kernel
theorem d_Md_counted_51 : decode b_Md_counted 51 = .ok (.iload 5, 2) := by decide +kernel
theorem d_Md_counted_53 : decode b_Md_counted 53 = .ok (.bipush 6, 2) := by decide +kernel
theorem d_Md_counted_55 : decode b_Md_counted 55 = .ok (.iload_n 1, 1) := by decide +kernel
theorem d_Md_counted_56 : decode b_Md_counted 56 = .ok (.imul, 1) := by decide +kernel
theorem d_Md_counted_57 : decode b_Md_counted 57 = .ok (.aload_n 0, 1) := by decide +kernel
theorem d_Md_counted_58 : decode b_Md_counted 58 = .ok (.getfield 77, 3) := by decide +kernel
theorem d_Md_counted_61 : decode b_Md_counted 61 = .ok (.iload_n 1, 1) := by decide +kernel
theorem d_Md_counted_62 : decode b_Md_counted 62 = .ok (.iaload, 1) := by decide +kernel
theorem d_Md_counted_63 : decode b_Md_counted 63 = .ok (.iadd, 1) := by decide +kernel
theorem d_Md_counted_64 : decode b_Md_counted 64 = .ok (.if_icmp .ge 47, 3) := by decide +kernel
theorem d_Md_counted_67 : decode b_Md_counted 67 = .ok (.iload_n 3, 1) := by decide +kernel
theorem d_Md_counted_68 : decode b_Md_counted 68 = .ok (.aload_n 0, 1) := by decide +kernel
theorem d_Md_counted_69 : decode b_Md_counted 69 = .ok (.getfield 80, 3) := by decide +kernel
theorem d_Md_counted_72 : decode b_Md_counted 72 = .ok (.iload 5, 2) := by decide +kernel
theorem d_Md_counted_74 : decode b_Md_counted 74 = .ok (.iaload, 1) := by decide +kernel
theorem d_Md_counted_75 : decode b_Md_counted 75 = .ok (.aload_n 0, 1) := by decide +kernel
theorem d_Md_counted_76 : decode b_Md_counted 76 = .ok (.getfield 83, 3) := by decide +kernel
theorem d_Md_counted_79 : decode b_Md_counted 79 = .ok (.iload 5, 2) := by decide +kernel
theorem d_Md_counted_81 : decode b_Md_counted 81 = .ok (.iaload, 1) := by decide +kernel
theorem d_Md_counted_82 : decode b_Md_counted 82 = .ok (.imul, 1) := by decide +kernel
theorem d_Md_counted_83 : decode b_Md_counted 83 = .ok (.iadd, 1) := by decide +kernel
theorem d_Md_counted_84 : decode b_Md_counted 84 = .ok (.istore_n 3, 1) := by decide +kernel
theorem d_Md_counted_85 : decode b_Md_counted 85 = .ok (.iload 4, 2) := by decide +kernel
theorem d_Md_counted_87 : decode b_Md_counted 87 = .ok (.aload_n 0, 1) := by decide +kernel
theorem d_Md_counted_88 : decode b_Md_counted 88 = .ok (.getfield 80, 3) := by decide +kernel
theorem d_Md_counted_91 : decode b_Md_counted 91 = .ok (.iload 5, 2) := by decide +kernel
theorem d_Md_counted_93 : decode b_Md_counted 93 = .ok (.iaload, 1) := by decide +kernel
theorem d_Md_counted_94 : decode b_Md_counted 94 = .ok (.aload_n 0, 1) := by decide +kernel
theorem d_Md_counted_95 : decode b_Md_counted 95 = .ok (.getfield 86, 3) := by decide +kernel
theorem d_Md_counted_98 : decode b_Md_counted 98 = .ok (.iload 5, 2) := by decide +kernel
theorem d_Md_counted_100 : decode b_Md_counted 100 = .ok (.iaload, 1) := by decide +kernel
theorem d_Md_counted_101 : decode b_Md_counted 101 = .ok (.imul, 1) := by decide +kernel
theorem d_Md_counted_102 : decode b_Md_counted 102 = .ok (.iadd, 1) := by decide +kernel
theorem d_Md_counted_103 : decode b_Md_counted 103 = .ok (.istore 4, 2) := by decide +kernel
theorem d_Md_counted_105 : decode b_Md_counted 105 = .ok (.iinc 5 1, 3) := by decide +kernel
theorem d_Md_counted_108 : decode b_Md_counted 108 = .ok (.goto (-57), 3) := by decide +kernel
theorem d_Md_counted_111 : decode b_Md_counted 111 = .ok (.iload_n 2, 1) := by decide +kernel
theorem d_Md_counted_112 : decode b_Md_counted 112 = .ok (.iload_n 3, 1) := by decide +kernel
theorem d_Md_counted_113 : decode b_Md_counted 113 = .ok (.iload 4, 2) := by decide +kernel
theorem d_Md_counted_115 : decode b_Md_counted 115 = .ok (.invokestatic 167, 3) := by decide +kernel
theorem d_Md_counted_118 : decode b_Md_counted 118 = .ok (.ifCond .ne 5, 3) := by decide +kernel
theorem d_Md_counted_121 : decode b_Md_counted 121 = .ok (.iconst 0, 1) := by decide +kernel
theorem d_Md_counted_122 : decode b_Md_counted 122 = .ok (.ireturn, 1) := by decide +kernel
theorem d_Md_counted_123 : decode b_Md_counted 123 = .ok (.iconst 0, 1) := by decide +kernel
theorem d_Md_counted_124 : decode b_Md_counted 124 = .ok (.istore 5, 2) := by decide +kernel
theorem d_Md_counted_126 : decode b_Md_counted 126 = .ok (.bipush 6, 2) := by decide +kernel
theorem d_Md_counted_128 : decode b_Md_counted 128 = .ok (.iload_n 1, 1) := by decide +kernel
theorem d_Md_counted_129 : decode b_Md_counted 129 = .ok (.imul, 1) := by decide +kernel
theorem d_Md_counted_130 : decode b_Md_counted 130 = .ok (.istore 6, 2) := by decide +kernel
theorem d_Md_counted_132 : decode b_Md_counted 132 = .ok (.iload 6, 2) := by decide +kernel
theorem d_Md_counted_134 : decode b_Md_counted 134 = .ok (.bipush 6, 2) := by decide +kernel
theorem d_Md_counted_136 : decode b_Md_counted 136 = .ok (.iload_n 1, 1) := by decide +kernel
theorem d_Md_counted_137 : decode b_Md_counted 137 = .ok (.imul, 1) := by decide +kernel
theorem d_Md_counted_138 : decode b_Md_counted 138 = .ok (.aload_n 0, 1) := by decide +kernel
theorem d_Md_counted_139 : decode b_Md_counted 139 = .ok (.getfield 77, 3) := by decide +kernel
theorem d_Md_counted_142 : decode b_Md_counted 142 = .ok (.iload_n 1, 1) := by decide +kernel
theorem d_Md_counted_143 : decode b_Md_counted 143 = .ok (.iaload, 1) := by decide +kernel
theorem d_Md_counted_144 : decode b_Md_counted 144 = .ok (.iadd, 1) := by decide +kernel
theorem d_Md_counted_145 : decode b_Md_counted 145 = .ok (.if_icmp .ge 83, 3) := by decide +kernel
theorem d_Md_counted_148 : decode b_Md_counted 148 = .ok (.iload 5, 2) := by decide +kernel
theorem d_Md_counted_150 : decode b_Md_counted 150 = .ok (.ifCond .ne 65, 3) := by decide +kernel
theorem d_Md_counted_153 : decode b_Md_counted 153 = .ok (.aload_n 0, 1) := by decide +kernel
theorem d_Md_counted_154 : decode b_Md_counted 154 = .ok (.getfield 80, 3) := by decide +kernel
theorem d_Md_counted_157 : decode b_Md_counted 157 = .ok (.iload 6, 2) := by decide +kernel
theorem d_Md_counted_159 : decode b_Md_counted 159 = .ok (.iaload, 1) := by decide +kernel
theorem d_Md_counted_160 : decode b_Md_counted 160 = .ok (.ifCond .le 29, 3) := by decide +kernel
theorem d_Md_counted_163 : decode b_Md_counted 163 = .ok (.iload_n 2, 1) := by decide +kernel
theorem d_Md_counted_164 : decode b_Md_counted 164 = .ok (.iload_n 3, 1) := by decide +kernel
theorem d_Md_counted_165 : decode b_Md_counted 165 = .ok (.aload_n 0, 1) := by decide +kernel
theorem d_Md_counted_166 : decode b_Md_counted 166 = .ok (.getfield 83, 3) := by decide +kernel
theorem d_Md_counted_169 : decode b_Md_counted 169 = .ok (.iload 6, 2) := by decide +kernel
theorem d_Md_counted_171 : decode b_Md_counted 171 = .ok (.iaload, 1) := by decide +kernel
theorem d_Md_counted_172 : decode b_Md_counted 172 = .ok (.isub, 1) := by decide +kernel
theorem d_Md_counted_173 : decode b_Md_counted 173 = .ok (.iload 4, 2) := by decide +kernel
theorem d_Md_counted_175 : decode b_Md_counted 175 = .ok (.aload_n 0, 1) := by decide +kernel
theorem d_Md_counted_176 : decode b_Md_counted 176 = .ok (.getfield 86, 3) := by decide +kernel
theorem d_Md_counted_179 : decode b_Md_counted 179 = .ok (.iload 6, 2) := by decide +kernel
theorem d_Md_counted_181 : decode b_Md_counted 181 = .ok (.iaload, 1) := by decide +kernel
theorem d_Md_counted_182 : decode b_Md_counted 182 = .ok (.isub, 1) := by decide +kernel
theorem d_Md_counted_183 : decode b_Md_counted 183 = .ok (.invokestatic 167, 3) := by decide +kernel
theorem d_Md_counted_186 : decode b_Md_counted 186 = .ok (.ifCond .ne 29, 3) := by decide +kernel
theorem d_Md_counted_189 : decode b_Md_counted 189 = .ok (.iload_n 2, 1) := by decide +kernel
theorem d_Md_counted_190 : decode b_Md_counted 190 = .ok (.iload_n 3, 1) := by decide +kernel
theorem d_Md_counted_191 : decode b_Md_counted 191 = .ok (.aload_n 0, 1) := by decide +kernel
theorem d_Md_counted_192 : decode b_Md_counted 192 = .ok (.getfield 83, 3) := by decide +kernel
theorem d_Md_counted_195 : decode b_Md_counted 195 = .ok (.iload 6, 2) := by decide +kernel
theorem d_Md_counted_197 : decode b_Md_counted 197 = .ok (.iaload, 1) := by decide +kernel
theorem d_Md_counted_198 : decode b_Md_counted 198 = .ok (.iadd, 1) := by decide +kernel
theorem d_Md_counted_199 : decode b_Md_counted 199 = .ok (.iload 4, 2) := by decide +kernel
theorem d_Md_counted_201 : decode b_Md_counted 201 = .ok (.aload_n 0, 1) := by decide +kernel
theorem d_Md_counted_202 : decode b_Md_counted 202 = .ok (.getfield 86, 3) := by decide +kernel
theorem d_Md_counted_205 : decode b_Md_counted 205 = .ok (.iload 6, 2) := by decide +kernel
theorem d_Md_counted_207 : decode b_Md_counted 207 = .ok (.iaload, 1) := by decide +kernel
theorem d_Md_counted_208 : decode b_Md_counted 208 = .ok (.iadd, 1) := by decide +kernel
theorem d_Md_counted_209 : decode b_Md_counted 209 = .ok (.invokestatic 167, 3) := by decide +kernel
theorem d_Md_counted_212 : decode b_Md_counted 212 = .ok (.ifCond .eq 7, 3) := by decide +kernel
theorem d_Md_counted_215 : decode b_Md_counted 215 = .ok (.iconst 1, 1) := by decide +kernel
theorem d_Md_counted_216 : decode b_Md_counted 216 = .ok (.goto 4, 3) := by decide +kernel
theorem d_Md_counted_219 : decode b_Md_counted 219 = .ok (.iconst 0, 1) := by decide +kernel
theorem d_Md_counted_220 : decode b_Md_counted 220 = .ok (.istore 5, 2) := by decide +kernel
theorem d_Md_counted_222 : decode b_Md_counted 222 = .ok (.iinc 6 1, 3) := by decide +kernel
theorem d_Md_counted_225 : decode b_Md_counted 225 = .ok (.goto (-93), 3) := by decide +kernel
theorem d_Md_counted_228 : decode b_Md_counted 228 = .ok (.iload 5, 2) := by decide +kernel
theorem d_Md_counted_230 : decode b_Md_counted 230 = .ok (.ifCond .eq 7, 3) := by decide +kernel
theorem d_Md_counted_233 : decode b_Md_counted 233 = .ok (.iconst 2, 1) := by decide +kernel
theorem d_Md_counted_234 : decode b_Md_counted 234 = .ok (.goto 4, 3) := by decide +kernel
theorem d_Md_counted_237 : decode b_Md_counted 237 = .ok (.iconst 1, 1) := by decide +kernel
theorem d_Md_counted_238 : decode b_Md_counted 238 = .ok (.ireturn, 1) := by decide +kernel
theorem d_Md_raised_0 : decode b_Md_raised 0 = .ok (.aload_n 0, 1) := by decide +kernel
theorem d_Md_raised_1 : decode b_Md_raised 1 = .ok (.aload_n 0, 1) := by decide +kernel
theorem d_Md_raised_2 : decode b_Md_raised 2 = .ok (.getfield 108, 3) := by decide +kernel
theorem d_Md_raised_5 : decode b_Md_raised 5 = .ok (.ifCond .ne 7, 3) := by decide +kernel
theorem d_Md_raised_8 : decode b_Md_raised 8 = .ok (.iconst 1, 1) := by decide +kernel
theorem d_Md_raised_9 : decode b_Md_raised 9 = .ok (.goto 37, 3) := by decide +kernel
theorem d_Md_raised_12 : decode b_Md_raised 12 = .ok (.iload_n 1, 1) := by decide +kernel
theorem d_Md_raised_13 : decode b_Md_raised 13 = .ok (.iconst 0, 1) := by decide +kernel
theorem d_Md_raised_14 : decode b_Md_raised 14 = .ok (.aload_n 0, 1) := by decide +kernel
theorem d_Md_raised_15 : decode b_Md_raised 15 = .ok (.getfield 141, 3) := by decide +kernel
theorem d_Md_raised_18 : decode b_Md_raised 18 = .ok (.iconst 1, 1) := by decide +kernel
theorem d_Md_raised_19 : decode b_Md_raised 19 = .ok (.isub, 1) := by decide +kernel
theorem d_Md_raised_20 : decode b_Md_raised 20 = .ok (.invokestatic 96, 3) := by decide +kernel
theorem d_Md_raised_23 : decode b_Md_raised 23 = .ok (.ifCond .ne 7, 3) := by decide +kernel
theorem d_Md_raised_26 : decode b_Md_raised 26 = .ok (.iconst 2, 1) := by decide +kernel
theorem d_Md_raised_27 : decode b_Md_raised 27 = .ok (.goto 19, 3) := by decide +kernel
theorem d_Md_raised_30 : decode b_Md_raised 30 = .ok (.iload_n 2, 1) := by decide +kernel
theorem d_Md_raised_31 : decode b_Md_raised 31 = .ok (.iconst 1, 1) := by decide +kernel
theorem d_Md_raised_32 : decode b_Md_raised 32 = .ok (.sipush 1000, 3) := by decide +kernel
theorem d_Md_raised_35 : decode b_Md_raised 35 = .ok (.invokestatic 96, 3) := by decide +kernel
theorem d_Md_raised_38 : decode b_Md_raised 38 = .ok (.ifCond .ne 7, 3) := by decide +kernel
theorem d_Md_raised_41 : decode b_Md_raised 41 = .ok (.iconst 3, 1) := by decide +kernel
theorem d_Md_raised_42 : decode b_Md_raised 42 = .ok (.goto 4, 3) := by decide +kernel
theorem d_Md_raised_45 : decode b_Md_raised 45 = .ok (.iconst 0, 1) := by decide +kernel
theorem d_Md_raised_46 : decode b_Md_raised 46 = .ok (.putfield 93, 3) := by decide +kernel
theorem d_Md_raised_49 : decode b_Md_raised 49 = .ok (.aload_n 0, 1) := by decide +kernel
theorem d_Md_raised_50 : decode b_Md_raised 50 = .ok (.getfield 93, 3) := by decide +kernel
theorem d_Md_raised_53 : decode b_Md_raised 53 = .ok (.ifCond .le 5, 3) := by decide +kernel
theorem d_Md_raised_56 : decode b_Md_raised 56 = .ok (.iconst 0, 1) := by decide +kernel
theorem d_Md_raised_57 : decode b_Md_raised 57 = .ok (.ireturn, 1) := by decide +kernel
theorem d_Md_raised_58 : decode b_Md_raised 58 = .ok (.aload_n 0, 1) := by decide +kernel
theorem d_Md_raised_59 : decode b_Md_raised 59 = .ok (.iload_n 1, 1) := by decide +kernel
theorem d_Md_raised_60 : decode b_Md_raised 60 = .ok (.invokevirtual 155, 3) := by decide +kernel
theorem d_Md_raised_63 : decode b_Md_raised 63 = .ok (.istore_n 3, 1) := by decide +kernel
theorem d_Md_raised_64 : decode b_Md_raised 64 = .ok (.aload_n 0, 1) := by decide +kernel
theorem d_Md_raised_65 : decode b_Md_raised 65 = .ok (.getfield 13, 3) := by decide +kernel
theorem d_Md_raised_68 : decode b_Md_raised 68 = .ok (.iload_n 3, 1) := by decide +kernel
theorem d_Md_raised_69 : decode b_Md_raised 69 = .ok (.iaload, 1) := by decide +kernel
theorem d_Md_raised_70 : decode b_Md_raised 70 = .ok (.aload_n 0, 1) := by decide +kernel
theorem d_Md_raised_71 : decode b_Md_raised 71 = .ok (.getfield 13, 3) := by decide +kernel
theorem d_Md_raised_74 : decode b_Md_raised 74 = .ok (.iload_n 3, 1) := by decide +kernel
theorem d_Md_raised_75 : decode b_Md_raised 75 = .ok (.iaload, 1) := by decide +kernel
theorem d_Md_raised_76 : decode b_Md_raised 76 = .ok (.imul, 1) := by decide +kernel
theorem d_Md_raised_77 : decode b_Md_raised 77 = .ok (.aload_n 0, 1) := by decide +kernel
theorem d_Md_raised_78 : decode b_Md_raised 78 = .ok (.getfield 16, 3) := by decide +kernel
theorem d_Md_raised_81 : decode b_Md_raised 81 = .ok (.iload_n 3, 1) := by decide +kernel
theorem d_Md_raised_82 : decode b_Md_raised 82 = .ok (.iaload, 1) := by decide +kernel
theorem d_Md_raised_83 : decode b_Md_raised 83 = .ok (.aload_n 0, 1) := by decide +kernel
theorem d_Md_raised_84 : decode b_Md_raised 84 = .ok (.getfield 16, 3) := by decide +kernel
theorem d_Md_raised_87 : decode b_Md_raised 87 = .ok (.iload_n 3, 1) := by decide +kernel
theorem d_Md_raised_88 : decode b_Md_raised 88 = .ok (.iaload, 1) := by decide +kernel
theorem d_Md_raised_89 : decode b_Md_raised 89 = .ok (.imul, 1) := by decide +kernel
theorem d_Md_raised_90 : decode b_Md_raised 90 = .ok (.iadd, 1) := by decide +kernel
theorem d_Md_raised_91 : decode b_Md_raised 91 = .ok (.iload_n 2, 1) := by decide +kernel
theorem d_Md_raised_92 : decode b_Md_raised 92 = .ok (.iload_n 2, 1) := by decide +kernel
theorem d_Md_raised_93 : decode b_Md_raised 93 = .ok (.imul, 1) := by decide +kernel
theorem d_Md_raised_94 : decode b_Md_raised 94 = .ok (.if_icmp .gt 7, 3) := by decide +kernel
theorem d_Md_raised_97 : decode b_Md_raised 97 = .ok (.iconst 1, 1) := by decide +kernel
theorem d_Md_raised_98 : decode b_Md_raised 98 = .ok (.goto 4, 3) := by decide +kernel
theorem d_Md_raised_101 : decode b_Md_raised 101 = .ok (.iconst 0, 1) := by decide +kernel
theorem d_Md_raised_102 : decode b_Md_raised 102 = .ok (.ireturn, 1) := by decide +kernel
theorem d_Md_pallets_0 : decode b_Md_pallets 0 = .ok (.aload_n 0, 1) := by decide +kernel
theorem d_Md_pallets_1 : decode b_Md_pallets 1 = .ok (.aload_n 0, 1) := by decide +kernel
theorem d_Md_pallets_2 : decode b_Md_pallets 2 = .ok (.getfield 108, 3) := by decide +kernel
theorem d_Md_pallets_5 : decode b_Md_pallets 5 = .ok (.ifCond .ne 7, 3) := by decide +kernel
theorem d_Md_pallets_8 : decode b_Md_pallets 8 = .ok (.iconst 1, 1) := by decide +kernel
theorem d_Md_pallets_9 : decode b_Md_pallets 9 = .ok (.goto 18, 3) := by decide +kernel
theorem d_Md_pallets_12 : decode b_Md_pallets 12 = .ok (.iload_n 1, 1) := by decide +kernel
theorem d_Md_pallets_13 : decode b_Md_pallets 13 = .ok (.iconst 1, 1) := by decide +kernel
theorem d_Md_pallets_14 : decode b_Md_pallets 14 = .ok (.ldc 170, 2) := by decide +kernel
theorem d_Md_pallets_16 : decode b_Md_pallets 16 = .ok (.invokestatic 96, 3) := by decide +kernel
theorem d_Md_pallets_19 : decode b_Md_pallets 19 = .ok (.ifCond .ne 7, 3) := by decide +kernel
theorem d_Md_pallets_22 : decode b_Md_pallets 22 = .ok (.iconst 2, 1) := by decide +kernel
theorem d_Md_pallets_23 : decode b_Md_pallets 23 = .ok (.goto 4, 3) := by decide +kernel
theorem d_Md_pallets_26 : decode b_Md_pallets 26 = .ok (.iconst 0, 1) := by decide +kernel
theorem d_Md_pallets_27 : decode b_Md_pallets 27 = .ok (.putfield 93, 3) := by decide +kernel
theorem d_Md_pallets_30 : decode b_Md_pallets 30 = .ok (.iconst 0, 1) := by decide +kernel
theorem d_Md_pallets_31 : decode b_Md_pallets 31 = .ok (.istore_n 2, 1) := by decide +kernel
theorem d_Md_pallets_32 : decode b_Md_pallets 32 = .ok (.iconst 0, 1) := by decide +kernel
theorem d_Md_pallets_33 : decode b_Md_pallets 33 = .ok (.istore_n 3, 1) := by decide +kernel
theorem d_Md_pallets_34 : decode b_Md_pallets 34 = .ok (.aload_n 0, 1) := by decide +kernel
theorem d_Md_pallets_35 : decode b_Md_pallets 35 = .ok (.getfield 93, 3) := by decide +kernel
theorem d_Md_pallets_38 : decode b_Md_pallets 38 = .ok (.ifCond .le 7, 3) := by decide +kernel
theorem d_Md_pallets_41 : decode b_Md_pallets 41 = .ok (.iconst 0, 1) := by decide +kernel
theorem d_Md_pallets_42 : decode b_Md_pallets 42 = .ok (.goto 11, 3) := by decide +kernel
theorem d_Md_pallets_45 : decode b_Md_pallets 45 = .ok (.aload_n 0, 1) := by decide +kernel
theorem d_Md_pallets_46 : decode b_Md_pallets 46 = .ok (.aload_n 0, 1) := by decide +kernel
theorem d_Md_pallets_47 : decode b_Md_pallets 47 = .ok (.getfield 68, 3) := by decide +kernel
theorem d_Md_pallets_50 : decode b_Md_pallets 50 = .ok (.invokevirtual 144, 3) := by decide +kernel
theorem d_Md_pallets_53 : decode b_Md_pallets 53 = .ok (.istore 4, 2) := by decide +kernel
theorem d_Md_pallets_55 : decode b_Md_pallets 55 = .ok (.iconst 0, 1) := by decide +kernel
theorem d_Md_pallets_56 : decode b_Md_pallets 56 = .ok (.istore 5, 2) := by decide +kernel
theorem d_Md_pallets_58 : decode b_Md_pallets 58 = .ok (.iload 5, 2) := by decide +kernel
theorem d_Md_pallets_60 : decode b_Md_pallets 60 = .ok (.iload 4, 2) := by decide +kernel
theorem d_Md_pallets_62 : decode b_Md_pallets 62 = .ok (.if_icmp .ge 69, 3) := by decide +kernel
theorem d_Md_pallets_65 : decode b_Md_pallets 65 = .ok (.aload_n 0, 1) := by decide +kernel
theorem d_Md_pallets_66 : decode b_Md_pallets 66 = .ok (.aload_n 0, 1) := by decide +kernel
theorem d_Md_pallets_67 : decode b_Md_pallets 67 = .ok (.getfield 74, 3) := by decide +kernel
theorem d_Md_pallets_70 : decode b_Md_pallets 70 = .ok (.iload 5, 2) := by decide +kernel
theorem d_Md_pallets_72 : decode b_Md_pallets 72 = .ok (.iaload, 1) := by decide +kernel
theorem d_Md_pallets_73 : decode b_Md_pallets 73 = .ok (.invokevirtual 161, 3) := by decide +kernel
theorem d_Md_pallets_76 : decode b_Md_pallets 76 = .ok (.istore 6, 2) := by decide +kernel
theorem d_Md_pallets_78 : decode b_Md_pallets 78 = .ok (.iload_n 2, 1) := by decide +kernel
theorem d_Md_pallets_79 : decode b_Md_pallets 79 = .ok (.ifCond .le 15, 3) := by decide +kernel
theorem d_Md_pallets_82 : decode b_Md_pallets 82 = .ok (.iload_n 3, 1) := by decide +kernel
theorem d_Md_pallets_83 : decode b_Md_pallets 83 = .ok (.iload 6, 2) := by decide +kernel
theorem d_Md_pallets_85 : decode b_Md_pallets 85 = .ok (.iadd, 1) := by decide +kernel
theorem d_Md_pallets_86 : decode b_Md_pallets 86 = .ok (.iload_n 1, 1) := by decide +kernel
theorem d_Md_pallets_87 : decode b_Md_pallets 87 = .ok (.if_icmp .gt 7, 3) := by decide +kernel
theorem d_Md_pallets_90 : decode b_Md_pallets 90 = .ok (.iconst 1, 1) := by decide +kernel
theorem d_Md_pallets_91 : decode b_Md_pallets 91 = .ok (.goto 4, 3) := by decide +kernel
theorem d_Md_pallets_94 : decode b_Md_pallets 94 = .ok (.iconst 0, 1) := by decide +kernel
theorem d_Md_pallets_95 : decode b_Md_pallets 95 = .ok (.istore 7, 2) := by decide +kernel
theorem d_Md_pallets_97 : decode b_Md_pallets 97 = .ok (.iload 7, 2) := by decide +kernel
theorem d_Md_pallets_99 : decode b_Md_pallets 99 = .ok (.ifCond .eq 10, 3) := by decide +kernel
theorem d_Md_pallets_102 : decode b_Md_pallets 102 = .ok (.iload_n 3, 1) := by decide +kernel
theorem d_Md_pallets_103 : decode b_Md_pallets 103 = .ok (.iload 6, 2) := by decide +kernel
theorem d_Md_pallets_105 : decode b_Md_pallets 105 = .ok (.iadd, 1) := by decide +kernel
theorem d_Md_pallets_106 : decode b_Md_pallets 106 = .ok (.goto 5, 3) := by decide +kernel
theorem d_Md_pallets_109 : decode b_Md_pallets 109 = .ok (.iload 6, 2) := by decide +kernel
theorem d_Md_pallets_111 : decode b_Md_pallets 111 = .ok (.istore_n 3, 1) := by decide +kernel
theorem d_Md_pallets_112 : decode b_Md_pallets 112 = .ok (.iload_n 2, 1) := by decide +kernel
theorem d_Md_pallets_113 : decode b_Md_pallets 113 = .ok (.iload 7, 2) := by decide +kernel
theorem d_Md_pallets_115 : decode b_Md_pallets 115 = .ok (.ifCond .eq 7, 3) := by decide +kernel
theorem d_Md_pallets_118 : decode b_Md_pallets 118 = .ok (.iconst 0, 1) := by decide +kernel
theorem d_Md_pallets_119 : decode b_Md_pallets 119 = .ok (.goto 4, 3) := by decide +kernel
theorem d_Md_pallets_122 : decode b_Md_pallets 122 = .ok (.iconst 1, 1) := by decide +kernel
theorem d_Md_pallets_123 : decode b_Md_pallets 123 = .ok (.iadd, 1) := by decide +kernel
theorem d_Md_pallets_124 : decode b_Md_pallets 124 = .ok (.istore_n 2, 1) := by decide +kernel
theorem d_Md_pallets_125 : decode b_Md_pallets 125 = .ok (.iinc 5 1, 3) := by decide +kernel
theorem d_Md_pallets_128 : decode b_Md_pallets 128 = .ok (.goto (-70), 3) := by decide +kernel
theorem d_Md_pallets_131 : decode b_Md_pallets 131 = .ok (.iload_n 2, 1) := by decide +kernel
theorem d_Md_pallets_132 : decode b_Md_pallets 132 = .ok (.ireturn, 1) := by decide +kernel
end
section
/-! base: pictures, worlds, contracts, call rows -/
def gUp (σ : Nat → Nat → Int32) (k : Nat) (g : Nat → Int32) : Nat → Nat → Int32 := fun j => if j = k then g else σ j
def gSt (σ : Nat → Nat → Int32) (k i : Nat) (x : Int32) : Nat → Nat → Int32 := gUp σ k (upd (σ k) i x)
def gNest : List (String × Nat × MethodName × String) := [("FlatBoxes", 11, ⟨"FlatBoxes$Cartons", "<init>", "()V"⟩, "FlatBoxes"), ("FlatBoxes", 18, ⟨"FlatBoxes$Parts", "<init>", "()V"⟩, "FlatBoxes"), ("FlatBoxes", 43, ⟨"FlatBoxes$Search", "<init>", "()V"⟩, "FlatBoxes"), ("FlatBoxes", 50, ⟨"FlatBoxes$Shares", "<init>", "()V"⟩, "FlatBoxes"), ("FlatBoxes", 57, ⟨"FlatBoxes$Bags", "<init>", "()V"⟩, "FlatBoxes"), ("FlatBoxes$Parts", 48, ⟨"FlatBoxes", "isIn", "(II)Z"⟩, "FlatBoxes"), ("FlatBoxes$Packing", 79, ⟨"FlatBoxes", "isIn", "(II)Z"⟩, "FlatBoxes"), ("FlatBoxes$Shares", 82, ⟨"FlatBoxes", "isIn", "(II)Z"⟩, "FlatBoxes")]
def gK (D : va_G) (t : Nat → ClassId) (U : State) : Prop := va_K D gCl [(t 0, .int), (t 1, .boolean), (t 2, .array .int), (t 3, .long)] U ∧ ∀ q ∈ gNest, va_Nw (.methodLinkNest q.1 q.2.1 q.2.2.1 q.2.2.2) U
theorem gK.moved {D : va_G} {t : Nat → ClassId} {s U : State} (hW : s.WarmedH U.vm) (h : gK D t s) : gK D t U := ⟨va_K.moved hW.alike h.1, fun q hq => va_Nw.warmM hW (h.2 q hq)⟩
theorem gK.call {D : va_G} {t : Nat → ClassId} {U : State} (h : gK D t U) (g : JFrame) (mk : MethodId) (a : Array Value) : gK D t (U.calling g mk a) := ⟨va_K.moved (u := U) (U := U.calling g mk a) (Vm.Alike.refl U.vm) h.1, fun q hq => va_Nw.same rfl rfl (h.2 q hq)⟩
/-- what a method of ours finds: the tables, its world, the addresses apart and in A -/
def gPre (D : va_G) (t : Nat → ClassId) (A : Nat → Prop) (w : va_W) (U : State) : Prop := gK D t U ∧ va_P D gCl w U.heap ∧ va_D A w
def gRm (n : Nat) : Room := { frames := n, cells := 0, slots := 0, locals := 40 * n }
/-- a contract: from the world w with these arguments the method answers r and leaves the world wd u with post r u; it makes no cell, and writes in A alone -/
def gMi {S : Type} (l : Launch) (D : va_G) (t : Nat → ClassId) (y : MethodName) (cc : ByteArray) (maxL : Nat) (ret : Option FieldType) (n : Nat) (av : List Value) (w : va_W) (wd : S → va_W) (post : Int32 → S → Prop) : Prop :=
  ∀ A : Nat → Prop, Met l y (.code y cc maxL ret :: gBig) (gRm n) (va_Pc av (gPre D t A w)) (va_Qi post (fun u U => va_P D gCl (wd u) U.heap ∧ va_D A (wd u)) A) 0 0 A
def gMv {S : Type} (l : Launch) (D : va_G) (t : Nat → ClassId) (y : MethodName) (cc : ByteArray) (maxL : Nat) (n : Nat) (av : List Value) (w : va_W) (wd : S → va_W) (post : S → Prop) : Prop :=
  ∀ A : Nat → Prop, Met l y (.code y cc maxL none :: gBig) (gRm n) (va_Pc av (gPre D t A w)) (va_Qv post (fun u U => va_P D gCl (wd u) U.heap ∧ va_D A (wd u)) A) 0 0 A
theorem gBlind {av : List Value} {D : va_G} {t : Nat → ClassId} {A : Nat → Prop} {w : va_W} : FrameBlind (va_Pc av (gPre D t A w)) := fun a U g mk h => ⟨h.1, h.2.1.call g mk a, h.2.2.1, h.2.2.2⟩
theorem gGoodB : ∀ w ∈ gBig, (w.onTables && w.keeps) = true ∨ ∃ ty, w = .arrayClass ty := fun w h => good_of_word (List.mem_filter.mp h).2
theorem gGood {w0 : Cond} {ws : List Cond} (h : ∀ w ∈ ws, w ∈ gBig) : GoodIn (w0 :: gBig) ws := fun w hw => ⟨List.mem_cons_of_mem _ (h w hw), gGoodB w (h w hw)⟩
theorem gGoodV {w0 : Cond} {own C : String} {idx maxL : Nat} {y : MethodName} {bytes : ByteArray} {ret : Option FieldType} (h1 : Cond.methodLink own idx y ∈ gBig) (h2 : Cond.instanceMethod y ∈ gBig) (h3 : Cond.selects C y y ∈ gBig) (h4 : Cond.initialized C ∈ gBig) (h5 : Cond.code y bytes maxL ret ∈ gBig) : GoodIn (w0 :: gBig) (wsV own idx C y (.code y bytes maxL ret :: gBig)) := gGood (fun w hw => by
  unfold wsV at hw
  simp only [List.cons_append, List.nil_append, List.mem_cons] at hw
  rcases hw with rfl | rfl | rfl | rfl | rfl | hw <;> assumption)
theorem gGoodS {w0 : Cond} {own : String} {idx maxL : Nat} {y : MethodName} {bytes : ByteArray} {ret : Option FieldType} (h1 : Cond.methodLink own idx y ∈ gBig) (h2 : Cond.static y ∈ gBig) (h4 : Cond.initialized own ∈ gBig) (h5 : Cond.code y bytes maxL ret ∈ gBig) : GoodIn (w0 :: gBig) (wsS own idx y (.code y bytes maxL ret :: gBig)) := gGood (fun w hw => by
  unfold wsS at hw
  simp only [List.cons_append, List.nil_append, List.mem_cons] at hw
  rcases hw with rfl | rfl | rfl | rfl | hw <;> assumption)
section GW
variable {p : Program} {l : Launch} {e : Env} {R : Room} {s : State} {m : MethodId} {args : Array Value} {below : List Frame} {meth : Method} {c : Code} {H : Heap} {locs : List Loc} {cells slots : Nat} {Q : State → Prop}
variable {cc : ByteArray} {pc : Nat} {ls : Array Slot} {rest : List Value} {D : va_G} {cl : List vw_C} {A : Nat → Prop} {a : Nat} {tys : List (ClassId × FieldType)} {ws : va_W} {H0 : Heap}
theorem g_iald (hexec : p.tables.exec = Jvm.exec) (hb : c.code = cc) (hK : va_K D cl tys s) (hP : va_P D cl ws H) (q0 t0 : Nat) {cA : ClassId} {n : Nat} {f : Nat → Int32} (ha : ws[q0]? = some (a, .inl (cA, n, .inl f))) (ht : tys[t0]? = some (cA, .int)) {i : Int32} (k : Nat) (hi : i = nI k) (hk : k < n) (hn : n ≤ 1024) (hdg : decode cc pc = .ok (.iaload, 1))
    (kk : W p l e R s m args below meth c H locs cells slots Q (F0 m (pc + 1) ls (.int (f k) :: rest))) : W p l e R s m args below meth c H locs cells slots Q (F0 m pc ls (.int i :: .ref a :: rest)) := by
  subst hi
  refine va_iald hexec hb hK hP q0 t0 ha ht (vp_in_nI hk (by omega)) hdg ?_
  rw [nI_clamp (by omega)]
  exact kk
theorem g_zald (hexec : p.tables.exec = Jvm.exec) (hb : c.code = cc) (hK : va_K D cl tys s) (hP : va_P D cl ws H) (q0 t0 : Nat) {cA : ClassId} {n : Nat} {f : Nat → Int32} (ha : ws[q0]? = some (a, .inl (cA, n, .inl f))) (ht : tys[t0]? = some (cA, .boolean)) {i : Int32} (k : Nat) (hi : i = nI k) (hk : k < n) (hn : n ≤ 1024) (hdg : decode cc pc = .ok (.baload, 1))
    (kk : W p l e R s m args below meth c H locs cells slots Q (F0 m (pc + 1) ls (.int (f k) :: rest))) : W p l e R s m args below meth c H locs cells slots Q (F0 m pc ls (.int i :: .ref a :: rest)) := by
  subst hi
  refine va_zald hexec hb hK hP q0 t0 ha ht (vp_in_nI hk (by omega)) hdg ?_
  rw [nI_clamp (by omega)]
  exact kk
theorem g_iast (hexec : p.tables.exec = Jvm.exec) (hb : c.code = cc) (hK : va_K D cl tys s) (hP : va_P D cl ws H) (hD : va_D A ws) (hS : va_S A H0 H locs) (q0 t0 : Nat) {cA : ClassId} {n : Nat} {f : Nat → Int32} (ha : ws[q0]? = some (a, .inl (cA, n, .inl f))) (ht : tys[t0]? = some (cA, .int)) {i x : Int32} (k : Nat) (hi : i = nI k) (hk : k < n) (hn : n ≤ 1024) {w' : va_W} (hw : ws.set q0 (a, .inl (cA, n, .inl (upd f k x))) = w') (hdg : decode cc pc = .ok (.iastore, 1))
    (kk : ∀ (H1 : Heap) (locs1 : List Loc), va_P D cl w' H1 → va_D A w' → va_S A H0 H1 locs1 → W p l e R s m args below meth c H1 locs1 cells slots Q (F0 m (pc + 1) ls rest)) : W p l e R s m args below meth c H locs cells slots Q (F0 m pc ls (.int x :: .int i :: .ref a :: rest)) := by
  subst hi
  subst hw
  refine va_iast hexec hb hK hP hD hS q0 t0 ha ht (vp_in_nI hk (by omega)) hdg ?_
  rw [nI_clamp (by omega)]
  exact kk
theorem g_zast (hexec : p.tables.exec = Jvm.exec) (hb : c.code = cc) (hK : va_K D cl tys s) (hP : va_P D cl ws H) (hD : va_D A ws) (hS : va_S A H0 H locs) (q0 t0 : Nat) {cA : ClassId} {n : Nat} {f : Nat → Int32} (ha : ws[q0]? = some (a, .inl (cA, n, .inl f))) (ht : tys[t0]? = some (cA, .boolean)) {i x : Int32} (hx : x = 0 ∨ x = 1) (k : Nat) (hi : i = nI k) (hk : k < n) (hn : n ≤ 1024) {w' : va_W} (hw : ws.set q0 (a, .inl (cA, n, .inl (upd f k x))) = w') (hdg : decode cc pc = .ok (.bastore, 1))
    (kk : ∀ (H1 : Heap) (locs1 : List Loc), va_P D cl w' H1 → va_D A w' → va_S A H0 H1 locs1 → W p l e R s m args below meth c H1 locs1 cells slots Q (F0 m (pc + 1) ls rest)) : W p l e R s m args below meth c H locs cells slots Q (F0 m pc ls (.int x :: .int i :: .ref a :: rest)) := by
  subst hi
  subst hw
  refine va_zast hexec hb hK hP hD hS q0 t0 ha ht (vp_in_nI hk (by omega)) hdg ?_
  have hz : vp_nar .boolean x = x := by rcases hx with rfl | rfl <;> decide
  rw [nI_clamp (by omega), hz]
  exact kk
theorem gb_n {v : Int32} (h : v = 0 ∨ v = 1) : narrow .boolean (.int v) = .int v := by rcases h with rfl | rfl <;> decide
theorem gb_f {v : Int32} (h : v = 0 ∨ v = 1) : fits .boolean (.int v) = true := by rcases h with rfl | rfl <;> decide
end GW
section GC
variable {p : Program} {l : Launch} {e : Env} {R : Room} {s : State} {m : MethodId} {args : Array Value} {below : List Frame} {meth : Method} {c : Code} {H : Heap} {locs : List Loc} {cells slots : Nat} {Q : State → Prop}
variable {cc bytes : ByteArray} {pc : Nat} {ls : Array Slot} {rest As : List Value} {D : va_G} {t : Nat → ClassId} {A : Nat → Prop} {w : va_W} {H0 : Heap} {S : Type} {wd : S → va_W}
variable {nL maxL n k index b : Nat} {ret : Option FieldType} {y : MethodName} {own C : String} {w0 : Cond}
/-- a call of a method of the same world, on an object of it -/
theorem g_vi {post : Int32 → S → Prop} (F : CallFix p m c cc nL s args (w0 :: gBig) own) (hM : gMi l D t y bytes maxL ret n (.ref b :: As) w wd post) (hG : GoodIn (w0 :: gBig) (wsV own index C y (.code y bytes maxL ret :: gBig)))
    (hd : y.cls = C ∧ y.cls ≠ "java/lang/invoke/MethodHandle" ∧ y.cls ≠ "java/lang/invoke/VarHandle" ∧ (parseMethodDescriptor y.desc).map (fun d => d.parameters.length) = some k) (hR : n + 1 ≤ R.frames ∧ 8 + (maxL + 11) + 40 * n ≤ R.locals) (hkl : As.length = k)
    (hrecv : ∃ cellB : Cell, H[b]? = some cellB ∧ cellB.vm.isStatics = false ∧ s.vm.findClass C = some cellB.cls)
    (hK : gK D t s) (hP : va_P D gCl w H) (hD : va_D A w) (hS : va_S A H0 H locs) (hsz : ls.size = nL) {st0 : List Value} (hst : st0 = As.reverse ++ .ref b :: rest) (hrest : (rest.map fun v => v.category).sum ≤ 8) (hc : cells ≤ R.cells ∧ slots ≤ R.slots) (hdg : decode cc pc = .ok (.invokevirtual index, 3))
    (kk : ∀ (r : Int32) (u : S) (H1 : Heap) (locs1 : List Loc), post r u → va_P D gCl (wd u) H1 → va_D A (wd u) → va_S A H0 H1 locs1 → W p l e R s m args below meth c H1 locs1 cells slots Q (F0 m (pc + 3) ls (.int r :: rest))) :
    W p l e R s m args below meth c H locs cells slots Q (F0 m pc ls st0) := by
  subst hst
  refine va_calli (A1 := A) (va_runV (As := As) (rest := rest) F (hM A) (cwV k F.2.2.2.2 hG rfl rfl rfl hd hR) ⟨gBlind, hrecv, fun U hU hW => ⟨rfl, gK.moved hW hK, by rw [hU]; exact hP, hD⟩⟩ rfl hkl hsz rfl (lv_room hrest) hdg hc) hS (fun q _ h => h) (fun q h => h) (fun r u T1 H1 locs1 ht hvm hp hB hz hk hS1 => ?_)
  exact kk r u H1 locs1 hp (by rw [← ht]; exact hB.1) hB.2 hS1
theorem g_vv {post : S → Prop} (F : CallFix p m c cc nL s args (w0 :: gBig) own) (hM : gMv l D t y bytes maxL n (.ref b :: As) w wd post) (hG : GoodIn (w0 :: gBig) (wsV own index C y (.code y bytes maxL none :: gBig)))
    (hd : y.cls = C ∧ y.cls ≠ "java/lang/invoke/MethodHandle" ∧ y.cls ≠ "java/lang/invoke/VarHandle" ∧ (parseMethodDescriptor y.desc).map (fun d => d.parameters.length) = some k) (hR : n + 1 ≤ R.frames ∧ 8 + (maxL + 11) + 40 * n ≤ R.locals) (hkl : As.length = k)
    (hrecv : ∃ cellB : Cell, H[b]? = some cellB ∧ cellB.vm.isStatics = false ∧ s.vm.findClass C = some cellB.cls)
    (hK : gK D t s) (hP : va_P D gCl w H) (hD : va_D A w) (hS : va_S A H0 H locs) (hsz : ls.size = nL) {st0 : List Value} (hst : st0 = As.reverse ++ .ref b :: rest) (hrest : (rest.map fun v => v.category).sum ≤ 8) (hc : cells ≤ R.cells ∧ slots ≤ R.slots) (hdg : decode cc pc = .ok (.invokevirtual index, 3))
    (kk : ∀ (u : S) (H1 : Heap) (locs1 : List Loc), post u → va_P D gCl (wd u) H1 → va_D A (wd u) → va_S A H0 H1 locs1 → W p l e R s m args below meth c H1 locs1 cells slots Q (F0 m (pc + 3) ls rest)) :
    W p l e R s m args below meth c H locs cells slots Q (F0 m pc ls st0) := by
  subst hst
  refine va_callv (A1 := A) (va_runV (As := As) (rest := rest) F (hM A) (cwV k F.2.2.2.2 hG rfl rfl rfl hd hR) ⟨gBlind, hrecv, fun U hU hW => ⟨rfl, gK.moved hW hK, by rw [hU]; exact hP, hD⟩⟩ rfl hkl hsz rfl (lv_room hrest) hdg hc) hS (fun q _ h => h) (fun q h => h) (fun u T1 H1 locs1 ht hvm hp hB hz hk hS1 => ?_)
  exact kk u H1 locs1 hp (by rw [← ht]; exact hB.1) hB.2 hS1
/-- a call of a static method of the same class -/
theorem g_si {post : Int32 → S → Prop} (F : CallFix p m c cc nL s args (w0 :: gBig) own) (hM : gMi l D t y bytes maxL ret n As w wd post) (hG : GoodIn (w0 :: gBig) (wsS own index y (.code y bytes maxL ret :: gBig)))
    (hd : y.cls = own ∧ y.cls ≠ "java/lang/invoke/MethodHandle" ∧ y.cls ≠ "java/lang/invoke/VarHandle" ∧ (parseMethodDescriptor y.desc).map (fun d => d.parameters.length) = some k) (hR : n + 1 ≤ R.frames ∧ 8 + (maxL + 11) + 40 * n ≤ R.locals) (hkl : As.length = k)
    (hK : gK D t s) (hP : va_P D gCl w H) (hD : va_D A w) (hS : va_S A H0 H locs) (hsz : ls.size = nL) {st0 : List Value} (hst : st0 = As.reverse ++ rest) (hrest : (rest.map fun v => v.category).sum ≤ 8) (hc : cells ≤ R.cells ∧ slots ≤ R.slots) (hdg : decode cc pc = .ok (.invokestatic index, 3))
    (kk : ∀ (r : Int32) (u : S) (H1 : Heap) (locs1 : List Loc), post r u → va_P D gCl (wd u) H1 → va_D A (wd u) → va_S A H0 H1 locs1 → W p l e R s m args below meth c H1 locs1 cells slots Q (F0 m (pc + 3) ls (.int r :: rest))) :
    W p l e R s m args below meth c H locs cells slots Q (F0 m pc ls st0) := by
  subst hst
  refine va_calli (A1 := A) (va_runS (As := As) (rest := rest) F (hM A) (cwS k F.2.2.2.2 hG rfl rfl rfl hd hR) ⟨gBlind, fun U hU hW => ⟨rfl, gK.moved hW hK, by rw [hU]; exact hP, hD⟩⟩ rfl hkl hsz rfl (lv_room hrest) hdg hc) hS (fun q _ h => h) (fun q h => h) (fun r u T1 H1 locs1 ht hvm hp hB hz hk hS1 => ?_)
  exact kk r u H1 locs1 hp (by rw [← ht]; exact hB.1) hB.2 hS1
end GC
/-- the reference's world: the object at a 0, the array of field k at a k; σ k is what field k holds -/
def wMd (t : Nat → ClassId) (a : Nat → Nat) (σ : Nat → Nat → Int32) : va_W := [(a 0, .inr (7, [.int (σ 0 0), .int (σ 1 0), .int (σ 2 0), .ref (a 3), .ref (a 4), .ref (a 5), .ref (a 6), .ref (a 7), .int (σ 8 0), .ref (a 9), .ref (a 10), .ref (a 11), .ref (a 12), .ref (a 13), .ref (a 14), .ref (a 15), .ref (a 16), .int (σ 17 0), .ref (a 18), .ref (a 19), .ref (a 20), .ref (a 21), .ref (a 22), .ref (a 23), .int (σ 24 0), .int (σ 25 0), .ref (a 26), .ref (a 27), .ref (a 28), .int (σ 29 0), .ref (a 30), .ref (a 31), .ref (a 32), .ref (a 33)])), (a 3, .inl (t 0, 4, .inl (σ 3))), (a 4, .inl (t 0, 4, .inl (σ 4))), (a 5, .inl (t 0, 4, .inl (σ 5))), (a 6, .inl (t 0, 4, .inl (σ 6))), (a 7, .inl (t 0, 4, .inl (σ 7))), (a 9, .inl (t 0, 8, .inl (σ 9))), (a 10, .inl (t 0, 8, .inl (σ 10))), (a 11, .inl (t 0, 8, .inl (σ 11))), (a 12, .inl (t 0, 8, .inl (σ 12))), (a 13, .inl (t 0, 8, .inl (σ 13))), (a 14, .inl (t 1, 8, .inl (σ 14))), (a 15, .inl (t 0, 8, .inl (σ 15))), (a 16, .inl (t 0, 8, .inl (σ 16))), (a 18, .inl (t 0, 8, .inl (σ 18))), (a 19, .inl (t 0, 8, .inl (σ 19))), (a 20, .inl (t 0, 8, .inl (σ 20))), (a 21, .inl (t 0, 8, .inl (σ 21))), (a 22, .inl (t 1, 8, .inl (σ 22))), (a 23, .inl (t 0, 256, .inl (σ 23))), (a 26, .inl (t 0, 8, .inl (σ 26))), (a 27, .inl (t 0, 8, .inl (σ 27))), (a 28, .inl (t 0, 8, .inl (σ 28))), (a 30, .inl (t 0, 4, .inl (σ 30))), (a 31, .inl (t 0, 24, .inl (σ 31))), (a 32, .inl (t 0, 24, .inl (σ 32))), (a 33, .inl (t 0, 24, .inl (σ 33)))]
theorem wMd_0 (t : Nat → ClassId) (a : Nat → Nat) (σ : Nat → Nat → Int32) : (wMd t a σ)[0]? = some (a 0, .inr (7, [.int (σ 0 0), .int (σ 1 0), .int (σ 2 0), .ref (a 3), .ref (a 4), .ref (a 5), .ref (a 6), .ref (a 7), .int (σ 8 0), .ref (a 9), .ref (a 10), .ref (a 11), .ref (a 12), .ref (a 13), .ref (a 14), .ref (a 15), .ref (a 16), .int (σ 17 0), .ref (a 18), .ref (a 19), .ref (a 20), .ref (a 21), .ref (a 22), .ref (a 23), .int (σ 24 0), .int (σ 25 0), .ref (a 26), .ref (a 27), .ref (a 28), .int (σ 29 0), .ref (a 30), .ref (a 31), .ref (a 32), .ref (a 33)])) := rfl
theorem sMd_0 (t : Nat → ClassId) (a : Nat → Nat) (σ : Nat → Nat → Int32) (x : Int32) : (wMd t a σ).set 0 (a 0, .inr (7, ([.int (σ 0 0), .int (σ 1 0), .int (σ 2 0), .ref (a 3), .ref (a 4), .ref (a 5), .ref (a 6), .ref (a 7), .int (σ 8 0), .ref (a 9), .ref (a 10), .ref (a 11), .ref (a 12), .ref (a 13), .ref (a 14), .ref (a 15), .ref (a 16), .int (σ 17 0), .ref (a 18), .ref (a 19), .ref (a 20), .ref (a 21), .ref (a 22), .ref (a 23), .int (σ 24 0), .int (σ 25 0), .ref (a 26), .ref (a 27), .ref (a 28), .int (σ 29 0), .ref (a 30), .ref (a 31), .ref (a 32), .ref (a 33)] : List Value).set 0 (.int x))) = wMd t a (gSt σ 0 0 x) := rfl
theorem sMd_1 (t : Nat → ClassId) (a : Nat → Nat) (σ : Nat → Nat → Int32) (x : Int32) : (wMd t a σ).set 0 (a 0, .inr (7, ([.int (σ 0 0), .int (σ 1 0), .int (σ 2 0), .ref (a 3), .ref (a 4), .ref (a 5), .ref (a 6), .ref (a 7), .int (σ 8 0), .ref (a 9), .ref (a 10), .ref (a 11), .ref (a 12), .ref (a 13), .ref (a 14), .ref (a 15), .ref (a 16), .int (σ 17 0), .ref (a 18), .ref (a 19), .ref (a 20), .ref (a 21), .ref (a 22), .ref (a 23), .int (σ 24 0), .int (σ 25 0), .ref (a 26), .ref (a 27), .ref (a 28), .int (σ 29 0), .ref (a 30), .ref (a 31), .ref (a 32), .ref (a 33)] : List Value).set 1 (.int x))) = wMd t a (gSt σ 1 0 x) := rfl
theorem sMd_2 (t : Nat → ClassId) (a : Nat → Nat) (σ : Nat → Nat → Int32) (x : Int32) : (wMd t a σ).set 0 (a 0, .inr (7, ([.int (σ 0 0), .int (σ 1 0), .int (σ 2 0), .ref (a 3), .ref (a 4), .ref (a 5), .ref (a 6), .ref (a 7), .int (σ 8 0), .ref (a 9), .ref (a 10), .ref (a 11), .ref (a 12), .ref (a 13), .ref (a 14), .ref (a 15), .ref (a 16), .int (σ 17 0), .ref (a 18), .ref (a 19), .ref (a 20), .ref (a 21), .ref (a 22), .ref (a 23), .int (σ 24 0), .int (σ 25 0), .ref (a 26), .ref (a 27), .ref (a 28), .int (σ 29 0), .ref (a 30), .ref (a 31), .ref (a 32), .ref (a 33)] : List Value).set 2 (.int x))) = wMd t a (gSt σ 2 0 x) := rfl
theorem wMd_3 (t : Nat → ClassId) (a : Nat → Nat) (σ : Nat → Nat → Int32) : (wMd t a σ)[1]? = some (a 3, .inl (t 0, 4, .inl (σ 3))) := rfl
theorem sMd_3 (t : Nat → ClassId) (a : Nat → Nat) (σ : Nat → Nat → Int32) (k : Nat) (x : Int32) : (wMd t a σ).set 1 (a 3, .inl (t 0, 4, .inl (upd (σ 3) k x))) = wMd t a (gSt σ 3 k x) := rfl
theorem wMd_4 (t : Nat → ClassId) (a : Nat → Nat) (σ : Nat → Nat → Int32) : (wMd t a σ)[2]? = some (a 4, .inl (t 0, 4, .inl (σ 4))) := rfl
theorem sMd_4 (t : Nat → ClassId) (a : Nat → Nat) (σ : Nat → Nat → Int32) (k : Nat) (x : Int32) : (wMd t a σ).set 2 (a 4, .inl (t 0, 4, .inl (upd (σ 4) k x))) = wMd t a (gSt σ 4 k x) := rfl
theorem wMd_5 (t : Nat → ClassId) (a : Nat → Nat) (σ : Nat → Nat → Int32) : (wMd t a σ)[3]? = some (a 5, .inl (t 0, 4, .inl (σ 5))) := rfl
theorem sMd_5 (t : Nat → ClassId) (a : Nat → Nat) (σ : Nat → Nat → Int32) (k : Nat) (x : Int32) : (wMd t a σ).set 3 (a 5, .inl (t 0, 4, .inl (upd (σ 5) k x))) = wMd t a (gSt σ 5 k x) := rfl
theorem wMd_6 (t : Nat → ClassId) (a : Nat → Nat) (σ : Nat → Nat → Int32) : (wMd t a σ)[4]? = some (a 6, .inl (t 0, 4, .inl (σ 6))) := rfl
theorem sMd_6 (t : Nat → ClassId) (a : Nat → Nat) (σ : Nat → Nat → Int32) (k : Nat) (x : Int32) : (wMd t a σ).set 4 (a 6, .inl (t 0, 4, .inl (upd (σ 6) k x))) = wMd t a (gSt σ 6 k x) := rfl
theorem wMd_7 (t : Nat → ClassId) (a : Nat → Nat) (σ : Nat → Nat → Int32) : (wMd t a σ)[5]? = some (a 7, .inl (t 0, 4, .inl (σ 7))) := rfl
theorem sMd_7 (t : Nat → ClassId) (a : Nat → Nat) (σ : Nat → Nat → Int32) (k : Nat) (x : Int32) : (wMd t a σ).set 5 (a 7, .inl (t 0, 4, .inl (upd (σ 7) k x))) = wMd t a (gSt σ 7 k x) := rfl
theorem sMd_8 (t : Nat → ClassId) (a : Nat → Nat) (σ : Nat → Nat → Int32) (x : Int32) : (wMd t a σ).set 0 (a 0, .inr (7, ([.int (σ 0 0), .int (σ 1 0), .int (σ 2 0), .ref (a 3), .ref (a 4), .ref (a 5), .ref (a 6), .ref (a 7), .int (σ 8 0), .ref (a 9), .ref (a 10), .ref (a 11), .ref (a 12), .ref (a 13), .ref (a 14), .ref (a 15), .ref (a 16), .int (σ 17 0), .ref (a 18), .ref (a 19), .ref (a 20), .ref (a 21), .ref (a 22), .ref (a 23), .int (σ 24 0), .int (σ 25 0), .ref (a 26), .ref (a 27), .ref (a 28), .int (σ 29 0), .ref (a 30), .ref (a 31), .ref (a 32), .ref (a 33)] : List Value).set 8 (.int x))) = wMd t a (gSt σ 8 0 x) := rfl
theorem wMd_9 (t : Nat → ClassId) (a : Nat → Nat) (σ : Nat → Nat → Int32) : (wMd t a σ)[6]? = some (a 9, .inl (t 0, 8, .inl (σ 9))) := rfl
theorem sMd_9 (t : Nat → ClassId) (a : Nat → Nat) (σ : Nat → Nat → Int32) (k : Nat) (x : Int32) : (wMd t a σ).set 6 (a 9, .inl (t 0, 8, .inl (upd (σ 9) k x))) = wMd t a (gSt σ 9 k x) := rfl
theorem wMd_10 (t : Nat → ClassId) (a : Nat → Nat) (σ : Nat → Nat → Int32) : (wMd t a σ)[7]? = some (a 10, .inl (t 0, 8, .inl (σ 10))) := rfl
theorem sMd_10 (t : Nat → ClassId) (a : Nat → Nat) (σ : Nat → Nat → Int32) (k : Nat) (x : Int32) : (wMd t a σ).set 7 (a 10, .inl (t 0, 8, .inl (upd (σ 10) k x))) = wMd t a (gSt σ 10 k x) := rfl
theorem wMd_11 (t : Nat → ClassId) (a : Nat → Nat) (σ : Nat → Nat → Int32) : (wMd t a σ)[8]? = some (a 11, .inl (t 0, 8, .inl (σ 11))) := rfl
theorem sMd_11 (t : Nat → ClassId) (a : Nat → Nat) (σ : Nat → Nat → Int32) (k : Nat) (x : Int32) : (wMd t a σ).set 8 (a 11, .inl (t 0, 8, .inl (upd (σ 11) k x))) = wMd t a (gSt σ 11 k x) := rfl
theorem wMd_12 (t : Nat → ClassId) (a : Nat → Nat) (σ : Nat → Nat → Int32) : (wMd t a σ)[9]? = some (a 12, .inl (t 0, 8, .inl (σ 12))) := rfl
theorem sMd_12 (t : Nat → ClassId) (a : Nat → Nat) (σ : Nat → Nat → Int32) (k : Nat) (x : Int32) : (wMd t a σ).set 9 (a 12, .inl (t 0, 8, .inl (upd (σ 12) k x))) = wMd t a (gSt σ 12 k x) := rfl
theorem wMd_13 (t : Nat → ClassId) (a : Nat → Nat) (σ : Nat → Nat → Int32) : (wMd t a σ)[10]? = some (a 13, .inl (t 0, 8, .inl (σ 13))) := rfl
theorem sMd_13 (t : Nat → ClassId) (a : Nat → Nat) (σ : Nat → Nat → Int32) (k : Nat) (x : Int32) : (wMd t a σ).set 10 (a 13, .inl (t 0, 8, .inl (upd (σ 13) k x))) = wMd t a (gSt σ 13 k x) := rfl
theorem wMd_14 (t : Nat → ClassId) (a : Nat → Nat) (σ : Nat → Nat → Int32) : (wMd t a σ)[11]? = some (a 14, .inl (t 1, 8, .inl (σ 14))) := rfl
theorem sMd_14 (t : Nat → ClassId) (a : Nat → Nat) (σ : Nat → Nat → Int32) (k : Nat) (x : Int32) : (wMd t a σ).set 11 (a 14, .inl (t 1, 8, .inl (upd (σ 14) k x))) = wMd t a (gSt σ 14 k x) := rfl
theorem wMd_15 (t : Nat → ClassId) (a : Nat → Nat) (σ : Nat → Nat → Int32) : (wMd t a σ)[12]? = some (a 15, .inl (t 0, 8, .inl (σ 15))) := rfl
theorem sMd_15 (t : Nat → ClassId) (a : Nat → Nat) (σ : Nat → Nat → Int32) (k : Nat) (x : Int32) : (wMd t a σ).set 12 (a 15, .inl (t 0, 8, .inl (upd (σ 15) k x))) = wMd t a (gSt σ 15 k x) := rfl
theorem wMd_16 (t : Nat → ClassId) (a : Nat → Nat) (σ : Nat → Nat → Int32) : (wMd t a σ)[13]? = some (a 16, .inl (t 0, 8, .inl (σ 16))) := rfl
theorem sMd_16 (t : Nat → ClassId) (a : Nat → Nat) (σ : Nat → Nat → Int32) (k : Nat) (x : Int32) : (wMd t a σ).set 13 (a 16, .inl (t 0, 8, .inl (upd (σ 16) k x))) = wMd t a (gSt σ 16 k x) := rfl
theorem sMd_17 (t : Nat → ClassId) (a : Nat → Nat) (σ : Nat → Nat → Int32) (x : Int32) : (wMd t a σ).set 0 (a 0, .inr (7, ([.int (σ 0 0), .int (σ 1 0), .int (σ 2 0), .ref (a 3), .ref (a 4), .ref (a 5), .ref (a 6), .ref (a 7), .int (σ 8 0), .ref (a 9), .ref (a 10), .ref (a 11), .ref (a 12), .ref (a 13), .ref (a 14), .ref (a 15), .ref (a 16), .int (σ 17 0), .ref (a 18), .ref (a 19), .ref (a 20), .ref (a 21), .ref (a 22), .ref (a 23), .int (σ 24 0), .int (σ 25 0), .ref (a 26), .ref (a 27), .ref (a 28), .int (σ 29 0), .ref (a 30), .ref (a 31), .ref (a 32), .ref (a 33)] : List Value).set 17 (.int x))) = wMd t a (gSt σ 17 0 x) := rfl
theorem wMd_18 (t : Nat → ClassId) (a : Nat → Nat) (σ : Nat → Nat → Int32) : (wMd t a σ)[14]? = some (a 18, .inl (t 0, 8, .inl (σ 18))) := rfl
theorem sMd_18 (t : Nat → ClassId) (a : Nat → Nat) (σ : Nat → Nat → Int32) (k : Nat) (x : Int32) : (wMd t a σ).set 14 (a 18, .inl (t 0, 8, .inl (upd (σ 18) k x))) = wMd t a (gSt σ 18 k x) := rfl
theorem wMd_19 (t : Nat → ClassId) (a : Nat → Nat) (σ : Nat → Nat → Int32) : (wMd t a σ)[15]? = some (a 19, .inl (t 0, 8, .inl (σ 19))) := rfl
theorem sMd_19 (t : Nat → ClassId) (a : Nat → Nat) (σ : Nat → Nat → Int32) (k : Nat) (x : Int32) : (wMd t a σ).set 15 (a 19, .inl (t 0, 8, .inl (upd (σ 19) k x))) = wMd t a (gSt σ 19 k x) := rfl
theorem wMd_20 (t : Nat → ClassId) (a : Nat → Nat) (σ : Nat → Nat → Int32) : (wMd t a σ)[16]? = some (a 20, .inl (t 0, 8, .inl (σ 20))) := rfl
theorem sMd_20 (t : Nat → ClassId) (a : Nat → Nat) (σ : Nat → Nat → Int32) (k : Nat) (x : Int32) : (wMd t a σ).set 16 (a 20, .inl (t 0, 8, .inl (upd (σ 20) k x))) = wMd t a (gSt σ 20 k x) := rfl
theorem wMd_21 (t : Nat → ClassId) (a : Nat → Nat) (σ : Nat → Nat → Int32) : (wMd t a σ)[17]? = some (a 21, .inl (t 0, 8, .inl (σ 21))) := rfl
theorem sMd_21 (t : Nat → ClassId) (a : Nat → Nat) (σ : Nat → Nat → Int32) (k : Nat) (x : Int32) : (wMd t a σ).set 17 (a 21, .inl (t 0, 8, .inl (upd (σ 21) k x))) = wMd t a (gSt σ 21 k x) := rfl
theorem wMd_22 (t : Nat → ClassId) (a : Nat → Nat) (σ : Nat → Nat → Int32) : (wMd t a σ)[18]? = some (a 22, .inl (t 1, 8, .inl (σ 22))) := rfl
theorem sMd_22 (t : Nat → ClassId) (a : Nat → Nat) (σ : Nat → Nat → Int32) (k : Nat) (x : Int32) : (wMd t a σ).set 18 (a 22, .inl (t 1, 8, .inl (upd (σ 22) k x))) = wMd t a (gSt σ 22 k x) := rfl
theorem wMd_23 (t : Nat → ClassId) (a : Nat → Nat) (σ : Nat → Nat → Int32) : (wMd t a σ)[19]? = some (a 23, .inl (t 0, 256, .inl (σ 23))) := rfl
theorem sMd_23 (t : Nat → ClassId) (a : Nat → Nat) (σ : Nat → Nat → Int32) (k : Nat) (x : Int32) : (wMd t a σ).set 19 (a 23, .inl (t 0, 256, .inl (upd (σ 23) k x))) = wMd t a (gSt σ 23 k x) := rfl
theorem sMd_24 (t : Nat → ClassId) (a : Nat → Nat) (σ : Nat → Nat → Int32) (x : Int32) : (wMd t a σ).set 0 (a 0, .inr (7, ([.int (σ 0 0), .int (σ 1 0), .int (σ 2 0), .ref (a 3), .ref (a 4), .ref (a 5), .ref (a 6), .ref (a 7), .int (σ 8 0), .ref (a 9), .ref (a 10), .ref (a 11), .ref (a 12), .ref (a 13), .ref (a 14), .ref (a 15), .ref (a 16), .int (σ 17 0), .ref (a 18), .ref (a 19), .ref (a 20), .ref (a 21), .ref (a 22), .ref (a 23), .int (σ 24 0), .int (σ 25 0), .ref (a 26), .ref (a 27), .ref (a 28), .int (σ 29 0), .ref (a 30), .ref (a 31), .ref (a 32), .ref (a 33)] : List Value).set 24 (.int x))) = wMd t a (gSt σ 24 0 x) := rfl
theorem sMd_25 (t : Nat → ClassId) (a : Nat → Nat) (σ : Nat → Nat → Int32) (x : Int32) : (wMd t a σ).set 0 (a 0, .inr (7, ([.int (σ 0 0), .int (σ 1 0), .int (σ 2 0), .ref (a 3), .ref (a 4), .ref (a 5), .ref (a 6), .ref (a 7), .int (σ 8 0), .ref (a 9), .ref (a 10), .ref (a 11), .ref (a 12), .ref (a 13), .ref (a 14), .ref (a 15), .ref (a 16), .int (σ 17 0), .ref (a 18), .ref (a 19), .ref (a 20), .ref (a 21), .ref (a 22), .ref (a 23), .int (σ 24 0), .int (σ 25 0), .ref (a 26), .ref (a 27), .ref (a 28), .int (σ 29 0), .ref (a 30), .ref (a 31), .ref (a 32), .ref (a 33)] : List Value).set 25 (.int x))) = wMd t a (gSt σ 25 0 x) := rfl
theorem wMd_26 (t : Nat → ClassId) (a : Nat → Nat) (σ : Nat → Nat → Int32) : (wMd t a σ)[20]? = some (a 26, .inl (t 0, 8, .inl (σ 26))) := rfl
theorem sMd_26 (t : Nat → ClassId) (a : Nat → Nat) (σ : Nat → Nat → Int32) (k : Nat) (x : Int32) : (wMd t a σ).set 20 (a 26, .inl (t 0, 8, .inl (upd (σ 26) k x))) = wMd t a (gSt σ 26 k x) := rfl
theorem wMd_27 (t : Nat → ClassId) (a : Nat → Nat) (σ : Nat → Nat → Int32) : (wMd t a σ)[21]? = some (a 27, .inl (t 0, 8, .inl (σ 27))) := rfl
theorem sMd_27 (t : Nat → ClassId) (a : Nat → Nat) (σ : Nat → Nat → Int32) (k : Nat) (x : Int32) : (wMd t a σ).set 21 (a 27, .inl (t 0, 8, .inl (upd (σ 27) k x))) = wMd t a (gSt σ 27 k x) := rfl
theorem wMd_28 (t : Nat → ClassId) (a : Nat → Nat) (σ : Nat → Nat → Int32) : (wMd t a σ)[22]? = some (a 28, .inl (t 0, 8, .inl (σ 28))) := rfl
theorem sMd_28 (t : Nat → ClassId) (a : Nat → Nat) (σ : Nat → Nat → Int32) (k : Nat) (x : Int32) : (wMd t a σ).set 22 (a 28, .inl (t 0, 8, .inl (upd (σ 28) k x))) = wMd t a (gSt σ 28 k x) := rfl
theorem sMd_29 (t : Nat → ClassId) (a : Nat → Nat) (σ : Nat → Nat → Int32) (x : Int32) : (wMd t a σ).set 0 (a 0, .inr (7, ([.int (σ 0 0), .int (σ 1 0), .int (σ 2 0), .ref (a 3), .ref (a 4), .ref (a 5), .ref (a 6), .ref (a 7), .int (σ 8 0), .ref (a 9), .ref (a 10), .ref (a 11), .ref (a 12), .ref (a 13), .ref (a 14), .ref (a 15), .ref (a 16), .int (σ 17 0), .ref (a 18), .ref (a 19), .ref (a 20), .ref (a 21), .ref (a 22), .ref (a 23), .int (σ 24 0), .int (σ 25 0), .ref (a 26), .ref (a 27), .ref (a 28), .int (σ 29 0), .ref (a 30), .ref (a 31), .ref (a 32), .ref (a 33)] : List Value).set 29 (.int x))) = wMd t a (gSt σ 29 0 x) := rfl
theorem wMd_30 (t : Nat → ClassId) (a : Nat → Nat) (σ : Nat → Nat → Int32) : (wMd t a σ)[23]? = some (a 30, .inl (t 0, 4, .inl (σ 30))) := rfl
theorem sMd_30 (t : Nat → ClassId) (a : Nat → Nat) (σ : Nat → Nat → Int32) (k : Nat) (x : Int32) : (wMd t a σ).set 23 (a 30, .inl (t 0, 4, .inl (upd (σ 30) k x))) = wMd t a (gSt σ 30 k x) := rfl
theorem wMd_31 (t : Nat → ClassId) (a : Nat → Nat) (σ : Nat → Nat → Int32) : (wMd t a σ)[24]? = some (a 31, .inl (t 0, 24, .inl (σ 31))) := rfl
theorem sMd_31 (t : Nat → ClassId) (a : Nat → Nat) (σ : Nat → Nat → Int32) (k : Nat) (x : Int32) : (wMd t a σ).set 24 (a 31, .inl (t 0, 24, .inl (upd (σ 31) k x))) = wMd t a (gSt σ 31 k x) := rfl
theorem wMd_32 (t : Nat → ClassId) (a : Nat → Nat) (σ : Nat → Nat → Int32) : (wMd t a σ)[25]? = some (a 32, .inl (t 0, 24, .inl (σ 32))) := rfl
theorem sMd_32 (t : Nat → ClassId) (a : Nat → Nat) (σ : Nat → Nat → Int32) (k : Nat) (x : Int32) : (wMd t a σ).set 25 (a 32, .inl (t 0, 24, .inl (upd (σ 32) k x))) = wMd t a (gSt σ 32 k x) := rfl
theorem wMd_33 (t : Nat → ClassId) (a : Nat → Nat) (σ : Nat → Nat → Int32) : (wMd t a σ)[26]? = some (a 33, .inl (t 0, 24, .inl (σ 33))) := rfl
theorem sMd_33 (t : Nat → ClassId) (a : Nat → Nat) (σ : Nat → Nat → Int32) (k : Nat) (x : Int32) : (wMd t a σ).set 26 (a 33, .inl (t 0, 24, .inl (upd (σ 33) k x))) = wMd t a (gSt σ 33 k x) := rfl
end
section
abbrev gGo {S : Type} (l : Launch) (p : Program) (e : Env) (s : State) (m : MethodId) (below : List Frame) (meth : Method) (c : Code) (D : va_G) (t : Nat → ClassId) (A : Nat → Prop) (n : Nat) (av : List Value) (wd : S → va_W) (post : Int32 → S → Prop) (H : Heap) (locs : List Loc) (g : JFrame) : Prop :=
  W p l e (gRm n) s m av.toArray below meth c H locs 0 0 (MQ below (va_Qi post (fun u U => va_P D gCl (wd u) U.heap ∧ va_D A (wd u)) A) av.toArray s 0 0 A) g
abbrev gGov {S : Type} (l : Launch) (p : Program) (e : Env) (s : State) (m : MethodId) (below : List Frame) (meth : Method) (c : Code) (D : va_G) (t : Nat → ClassId) (A : Nat → Prop) (n : Nat) (av : List Value) (wd : S → va_W) (post : S → Prop) (H : Heap) (locs : List Loc) (g : JFrame) : Prop :=
  W p l e (gRm n) s m av.toArray below meth c H locs 0 0 (MQ below (va_Qv post (fun u U => va_P D gCl (wd u) U.heap ∧ va_D A (wd u)) A) av.toArray s 0 0 A) g

/-! the reference's methods as functions of its picture σ; fields by their numbers -/
def mIn (v lo hi : Int32) : Int32 := if v < lo then 0 else if hi < v then 0 else 1
def mSide (v : Int32) : Int32 := mIn v 1 100
def mHas (set q : Int32) : Int32 := if (set >>> (q &&& 31)) &&& 1 = 1 then 1 else 0
def mWithin (v sum spr : Int32) : Int32 := if v < sum - spr then 0 else if sum + spr < v then 0 else 1
def mSum (f : Nat → Int32) : Nat → Int32
  | 0 => 0
  | k + 1 => mSum f k + f k
def mGrams (σ : Nat → Nat → Int32) (set : Int32) : Nat → Int32
  | 0 => 0
  | k + 1 => mGrams σ set k + (if mHas set (nI k) = 0 then 0 else σ 12 k)
theorem mHas01 (set q : Int32) : mHas set q = 0 ∨ mHas set q = 1 := by unfold mHas; split <;> simp
theorem mIn01 (v lo hi : Int32) : mIn v lo hi = 0 ∨ mIn v lo hi = 1 := by unfold mIn; split; simp; split <;> simp

theorem gg_Md_96 (w0 : Cond) : GoodIn (w0 :: gBig) (wsS R_Md 96 y_Md_in (.code y_Md_in b_Md_in 3 (some .boolean) :: gBig)) := gGoodS (gIn k_780 (by decide +kernel)) (gIn k_781 (by decide +kernel)) (gIn k_9 (by decide +kernel)) (gIn k_782 (by decide +kernel))
theorem gg_Md_123 (w0 : Cond) : GoodIn (w0 :: gBig) (wsV R_Md 123 R_Md y_Md_has (.code y_Md_has b_Md_has 3 (some .boolean) :: gBig)) := gGoodV (gIn k_805 (by decide +kernel)) (gIn k_807 (by decide +kernel)) (gInP (List.mem_of_getElem? (i := 18) (by decide +kernel)) (by decide +kernel)) (gIn k_9 (by decide +kernel)) (gIn k_808 (by decide +kernel))
set_option maxHeartbeats 4000000 in
set_option maxRecDepth 100000 in
theorem c_Md_thrown (l : Launch) (D : va_G) (t : Nat → ClassId) (a : Nat → Nat) (σ : Nat → Nat → Int32)  : gMi l D t y_Md_thrown b_Md_thrown 1 (some .int) 0 [.ref (a 0)] (wMd t a σ) (wMd t a) (fun r u => r = σ 0 0 ∧ u = σ) := by
  intro A
  refine Met.ofW (cc := b_Md_thrown) (maxL := 1) (ret := (some .int)) (by decide) rfl ?_
  intro p e s m args below meth c s₁ B hml hv
  obtain ⟨rfl, hK, hP, hD⟩ := hv
  have hx := B.exec
  have hb := B.bytes
  have hr := B.returns
  have hts := atoms_spec (ws := .code y_Md_thrown b_Md_thrown 1 (some .int) :: gBig) B.pre
  have hown : s.vm.findClass R_Md = some m.cls := findClass_of_methodNamed B.named
  have hlocks := B.notSynchronized
  have hS : va_S A s.heap s.heap [] := va_S.rf
  have hl := lv_entry ([.ref (a 0)]) (n := 1) (Nat.le_of_ble_eq_true rfl)
  rw [lg_entry_eq]
  generalize (lg_sl ([.ref (a 0)]) ++ List.replicate (1 - (lg_sl ([.ref (a 0)])).length) Slot.unset).toArray = ls at hl ⊢
  have hl : lv_has ls 1 [(0, .ref (a 0))] := hl
  show gGo l p e s m below meth c D t A 0 [.ref (a 0)] (wMd t a) (fun r u => r = σ 0 0 ∧ u = σ) s.heap [] (F0 m 0 ls [])
  refine lv_aload_n hx hb d_Md_thrown_0 rfl (lv_at hl 0 rfl) ?_
  refine va_get (D := D) (ci := 7) (v := .int (σ 0 0)) (C := R_Md) (T := F_Md) (N := 34) hx hb hts (fun w h => List.mem_cons_of_mem _ (i_Md w h)) hown hK.1 hP 0 (wMd_0 t a σ) rfl 0 (by decide) (hts (.fieldLink R_Md 93 "FlatBoxesModel" "code" "I") (List.mem_cons_of_mem _ (gIn k_666 (by decide +kernel)))) (fun _ h9 => h9) rfl d_Md_thrown_1 ?_
  exact W.iret (v := σ 0 0) hx hb hr (fun U hU hW => ⟨⟨σ 0 0, σ, rfl, by exact ⟨rfl, rfl⟩, by rw [hU]; exact hP, hD⟩, hS.F hU⟩) hS.2.2 d_Md_thrown_4
set_option maxHeartbeats 4000000 in
set_option maxRecDepth 100000 in
theorem c_Md_in (l : Launch) (D : va_G) (t : Nat → ClassId) (a : Nat → Nat) (σ : Nat → Nat → Int32) (v lo hi : Int32) : gMi l D t y_Md_in b_Md_in 3 (some .boolean) 0 [.int v, .int lo, .int hi] (wMd t a σ) (wMd t a) (fun r u => r = mIn v lo hi ∧ u = σ) := by
  intro A
  refine Met.ofW (cc := b_Md_in) (maxL := 3) (ret := (some .boolean)) (by decide) rfl ?_
  intro p e s m args below meth c s₁ B hml hv
  obtain ⟨rfl, hK, hP, hD⟩ := hv
  have hx := B.exec
  have hb := B.bytes
  have hr := B.returns
  have hts := atoms_spec (ws := .code y_Md_in b_Md_in 3 (some .boolean) :: gBig) B.pre
  have hown : s.vm.findClass R_Md = some m.cls := findClass_of_methodNamed B.named
  have hlocks := B.notSynchronized
  have hS : va_S A s.heap s.heap [] := va_S.rf
  have hl := lv_entry ([.int v, .int lo, .int hi]) (n := 3) (Nat.le_of_ble_eq_true rfl)
  rw [lg_entry_eq]
  generalize (lg_sl ([.int v, .int lo, .int hi]) ++ List.replicate (3 - (lg_sl ([.int v, .int lo, .int hi])).length) Slot.unset).toArray = ls at hl ⊢
  have hl : lv_has ls 3 [(0, .int v), (1, .int lo), (2, .int hi)] := hl
  show gGo l p e s m below meth c D t A 0 [.int v, .int lo, .int hi] (wMd t a) (fun r u => r = mIn v lo hi ∧ u = σ) s.heap [] (F0 m 0 ls [])
  refine lv_iload_n hx hb d_Md_in_0 rfl (lv_at hl 0 rfl) ?_
  refine lv_iload_n hx hb d_Md_in_1 rfl (lv_at hl 1 rfl) ?_
  refine lv_icmp_lt (tgt := 14) hx hb d_Md_in_2 (by decide) (fun c_1 => ?_) (fun c_1 => ?_)
  · 
    refine lv_iconst (v := 0) hx hb d_Md_in_14 (by decide) ?_
    exact W.zret (v := 0) (ty := .boolean) hx hb hr (rfl) (fun U hU hW => ⟨⟨0, σ, rfl, by exact ⟨by simp [mIn, c_1], rfl⟩, by rw [hU]; exact hP, hD⟩, hS.F hU⟩) hS.2.2 d_Md_in_15
  · 
    refine lv_iload_n hx hb d_Md_in_5 rfl (lv_at hl 0 rfl) ?_
    refine lv_iload_n hx hb d_Md_in_6 rfl (lv_at hl 2 rfl) ?_
    refine lv_icmp_gt (tgt := 14) hx hb d_Md_in_7 (by decide) (fun c_2 => ?_) (fun c_2 => ?_)
    · 
      refine lv_iconst (v := 0) hx hb d_Md_in_14 (by decide) ?_
      exact W.zret (v := 0) (ty := .boolean) hx hb hr (rfl) (fun U hU hW => ⟨⟨0, σ, rfl, by exact ⟨by simp [mIn, c_1, c_2], rfl⟩, by rw [hU]; exact hP, hD⟩, hS.F hU⟩) hS.2.2 d_Md_in_15
    · 
      refine lv_iconst (v := 1) hx hb d_Md_in_10 (by decide) ?_
      refine lv_goto (tgt := 15) hx hb d_Md_in_11 (by decide) ?_
      exact W.zret (v := 1) (ty := .boolean) hx hb hr (rfl) (fun U hU hW => ⟨⟨1, σ, rfl, by exact ⟨by simp [mIn, c_1, c_2], rfl⟩, by rw [hU]; exact hP, hD⟩, hS.F hU⟩) hS.2.2 d_Md_in_15
set_option maxHeartbeats 4000000 in
set_option maxRecDepth 100000 in
theorem c_Md_isSide (l : Launch) (D : va_G) (t : Nat → ClassId) (a : Nat → Nat) (σ : Nat → Nat → Int32) (v : Int32) : gMi l D t y_Md_isSide b_Md_isSide 1 (some .boolean) 1 [.int v] (wMd t a σ) (wMd t a) (fun r u => r = mSide v ∧ u = σ) := by
  intro A
  refine Met.ofW (cc := b_Md_isSide) (maxL := 1) (ret := (some .boolean)) (by decide) rfl ?_
  intro p e s m args below meth c s₁ B hml hv
  obtain ⟨rfl, hK, hP, hD⟩ := hv
  have hx := B.exec
  have hb := B.bytes
  have hr := B.returns
  have hts := atoms_spec (ws := .code y_Md_isSide b_Md_isSide 1 (some .boolean) :: gBig) B.pre
  have hown : s.vm.findClass R_Md = some m.cls := findClass_of_methodNamed B.named
  have hlocks := B.notSynchronized
  have hS : va_S A s.heap s.heap [] := va_S.rf
  have hl := lv_entry ([.int v]) (n := 1) (Nat.le_of_ble_eq_true rfl)
  rw [lg_entry_eq]
  generalize (lg_sl ([.int v]) ++ List.replicate (1 - (lg_sl ([.int v])).length) Slot.unset).toArray = ls at hl ⊢
  have hl : lv_has ls 1 [(0, .int v)] := hl
  show gGo l p e s m below meth c D t A 1 [.int v] (wMd t a) (fun r u => r = mSide v ∧ u = σ) s.heap [] (F0 m 0 ls [])
  refine lv_iload_n hx hb d_Md_isSide_0 rfl (lv_at hl 0 rfl) ?_
  refine lv_iconst (v := 1) hx hb d_Md_isSide_1 (by decide) ?_
  refine lv_bipush (v := 100) hx hb d_Md_isSide_2 (by decide) ?_
  refine g_si (k := 3) (As := [.int v, .int 1, .int 100]) (rest := []) (own := R_Md) (index := 96) ⟨hx, hb, hml, hown, hts⟩ (c_Md_in l D t a σ v 1 100) (gg_Md_96 _) (by decide +kernel) ⟨Nat.le_of_ble_eq_true rfl, Nat.le_of_ble_eq_true rfl⟩ rfl hK hP hD hS hl.1 rfl (Nat.le_of_ble_eq_true rfl) ⟨Nat.zero_le _, Nat.zero_le _⟩ d_Md_isSide_4 (fun r_1 u_1 H locs q_1 hP hD hS => ?_)
  obtain ⟨rfl, hu_1⟩ := q_1
  rw [hu_1] at hP hD
  exact W.zret (v := mIn v 1 100) (ty := .boolean) hx hb hr (gb_n (mIn01 _ _ _)) (fun U hU hW => ⟨⟨mIn v 1 100, σ, rfl, by exact ⟨rfl, rfl⟩, by rw [hU]; exact hP, hD⟩, hS.F hU⟩) hS.2.2 d_Md_isSide_7
set_option maxHeartbeats 4000000 in
set_option maxRecDepth 100000 in
theorem c_Md_isWithin (l : Launch) (D : va_G) (t : Nat → ClassId) (a : Nat → Nat) (σ : Nat → Nat → Int32) (v sum spr : Int32) : gMi l D t y_Md_isWithin b_Md_isWithin 3 (some .boolean) 0 [.int v, .int sum, .int spr] (wMd t a σ) (wMd t a) (fun r u => r = mWithin v sum spr ∧ u = σ) := by
  intro A
  refine Met.ofW (cc := b_Md_isWithin) (maxL := 3) (ret := (some .boolean)) (by decide) rfl ?_
  intro p e s m args below meth c s₁ B hml hv
  obtain ⟨rfl, hK, hP, hD⟩ := hv
  have hx := B.exec
  have hb := B.bytes
  have hr := B.returns
  have hts := atoms_spec (ws := .code y_Md_isWithin b_Md_isWithin 3 (some .boolean) :: gBig) B.pre
  have hown : s.vm.findClass R_Md = some m.cls := findClass_of_methodNamed B.named
  have hlocks := B.notSynchronized
  have hS : va_S A s.heap s.heap [] := va_S.rf
  have hl := lv_entry ([.int v, .int sum, .int spr]) (n := 3) (Nat.le_of_ble_eq_true rfl)
  rw [lg_entry_eq]
  generalize (lg_sl ([.int v, .int sum, .int spr]) ++ List.replicate (3 - (lg_sl ([.int v, .int sum, .int spr])).length) Slot.unset).toArray = ls at hl ⊢
  have hl : lv_has ls 3 [(0, .int v), (1, .int sum), (2, .int spr)] := hl
  show gGo l p e s m below meth c D t A 0 [.int v, .int sum, .int spr] (wMd t a) (fun r u => r = mWithin v sum spr ∧ u = σ) s.heap [] (F0 m 0 ls [])
  refine lv_iload_n hx hb d_Md_isWithin_0 rfl (lv_at hl 0 rfl) ?_
  refine lv_iload_n hx hb d_Md_isWithin_1 rfl (lv_at hl 1 rfl) ?_
  refine lv_iload_n hx hb d_Md_isWithin_2 rfl (lv_at hl 2 rfl) ?_
  refine lv_isub hx hb d_Md_isWithin_3 ?_
  refine lv_icmp_lt (tgt := 18) hx hb d_Md_isWithin_4 (by decide) (fun c_1 => ?_) (fun c_1 => ?_)
  · 
    refine lv_iconst (v := 0) hx hb d_Md_isWithin_18 (by decide) ?_
    exact W.zret (v := 0) (ty := .boolean) hx hb hr (rfl) (fun U hU hW => ⟨⟨0, σ, rfl, by exact ⟨by simp [mWithin, c_1], rfl⟩, by rw [hU]; exact hP, hD⟩, hS.F hU⟩) hS.2.2 d_Md_isWithin_19
  · 
    refine lv_iload_n hx hb d_Md_isWithin_7 rfl (lv_at hl 0 rfl) ?_
    refine lv_iload_n hx hb d_Md_isWithin_8 rfl (lv_at hl 1 rfl) ?_
    refine lv_iload_n hx hb d_Md_isWithin_9 rfl (lv_at hl 2 rfl) ?_
    refine lv_iadd hx hb d_Md_isWithin_10 ?_
    refine lv_icmp_gt (tgt := 18) hx hb d_Md_isWithin_11 (by decide) (fun c_2 => ?_) (fun c_2 => ?_)
    · 
      refine lv_iconst (v := 0) hx hb d_Md_isWithin_18 (by decide) ?_
      exact W.zret (v := 0) (ty := .boolean) hx hb hr (rfl) (fun U hU hW => ⟨⟨0, σ, rfl, by exact ⟨by simp [mWithin, c_1, c_2], rfl⟩, by rw [hU]; exact hP, hD⟩, hS.F hU⟩) hS.2.2 d_Md_isWithin_19
    · 
      refine lv_iconst (v := 1) hx hb d_Md_isWithin_14 (by decide) ?_
      refine lv_goto (tgt := 19) hx hb d_Md_isWithin_15 (by decide) ?_
      exact W.zret (v := 1) (ty := .boolean) hx hb hr (rfl) (fun U hU hW => ⟨⟨1, σ, rfl, by exact ⟨by simp [mWithin, c_1, c_2], rfl⟩, by rw [hU]; exact hP, hD⟩, hS.F hU⟩) hS.2.2 d_Md_isWithin_19
set_option maxHeartbeats 4000000 in
set_option maxRecDepth 100000 in
theorem c_Md_has (l : Launch) (D : va_G) (t : Nat → ClassId) (a : Nat → Nat) (σ : Nat → Nat → Int32) (set q : Int32) : gMi l D t y_Md_has b_Md_has 3 (some .boolean) 0 [.ref (a 0), .int set, .int q] (wMd t a σ) (wMd t a) (fun r u => r = mHas set q ∧ u = σ) := by
  intro A
  refine Met.ofW (cc := b_Md_has) (maxL := 3) (ret := (some .boolean)) (by decide) rfl ?_
  intro p e s m args below meth c s₁ B hml hv
  obtain ⟨rfl, hK, hP, hD⟩ := hv
  have hx := B.exec
  have hb := B.bytes
  have hr := B.returns
  have hts := atoms_spec (ws := .code y_Md_has b_Md_has 3 (some .boolean) :: gBig) B.pre
  have hown : s.vm.findClass R_Md = some m.cls := findClass_of_methodNamed B.named
  have hlocks := B.notSynchronized
  have hS : va_S A s.heap s.heap [] := va_S.rf
  have hl := lv_entry ([.ref (a 0), .int set, .int q]) (n := 3) (Nat.le_of_ble_eq_true rfl)
  rw [lg_entry_eq]
  generalize (lg_sl ([.ref (a 0), .int set, .int q]) ++ List.replicate (3 - (lg_sl ([.ref (a 0), .int set, .int q])).length) Slot.unset).toArray = ls at hl ⊢
  have hl : lv_has ls 3 [(0, .ref (a 0)), (1, .int set), (2, .int q)] := hl
  show gGo l p e s m below meth c D t A 0 [.ref (a 0), .int set, .int q] (wMd t a) (fun r u => r = mHas set q ∧ u = σ) s.heap [] (F0 m 0 ls [])
  refine lv_iload_n hx hb d_Md_has_0 rfl (lv_at hl 1 rfl) ?_
  refine lv_iload_n hx hb d_Md_has_1 rfl (lv_at hl 2 rfl) ?_
  refine lv_ishr hx hb d_Md_has_2 ?_
  refine lv_iconst (v := 1) hx hb d_Md_has_3 (by decide) ?_
  refine lv_iand hx hb d_Md_has_4 ?_
  refine lv_iconst (v := 1) hx hb d_Md_has_5 (by decide) ?_
  refine lv_icmp_ne (tgt := 13) hx hb d_Md_has_6 (by decide) (fun c_1 => ?_) (fun c_1 => ?_)
  · 
    refine lv_iconst (v := 0) hx hb d_Md_has_13 (by decide) ?_
    exact W.zret (v := 0) (ty := .boolean) hx hb hr (rfl) (fun U hU hW => ⟨⟨0, σ, rfl, by exact ⟨by simp [mHas, c_1], rfl⟩, by rw [hU]; exact hP, hD⟩, hS.F hU⟩) hS.2.2 d_Md_has_14
  · 
    refine lv_iconst (v := 1) hx hb d_Md_has_9 (by decide) ?_
    refine lv_goto (tgt := 14) hx hb d_Md_has_10 (by decide) ?_
    exact W.zret (v := 1) (ty := .boolean) hx hb hr (rfl) (fun U hU hW => ⟨⟨1, σ, rfl, by exact ⟨by simp [mHas, c_1], rfl⟩, by rw [hU]; exact hP, hD⟩, hS.F hU⟩) hS.2.2 d_Md_has_14
set_option maxHeartbeats 4000000 in
set_option maxRecDepth 100000 in
theorem c_Md_highOf (l : Launch) (D : va_G) (t : Nat → ClassId) (a : Nat → Nat) (σ : Nat → Nat → Int32) (L : Nat) (hL : σ 17 0 = nI L) (hL8 : L ≤ 8) : gMi l D t y_Md_highOf b_Md_highOf 3 (some .int) 0 [.ref (a 0)] (wMd t a σ) (wMd t a) (fun r u => r = mSum (σ 19) L ∧ u = σ) := by
  intro A
  refine Met.ofW (cc := b_Md_highOf) (maxL := 3) (ret := (some .int)) (by decide) rfl ?_
  intro p e s m args below meth c s₁ B hml hv
  obtain ⟨rfl, hK, hP, hD⟩ := hv
  have hx := B.exec
  have hb := B.bytes
  have hr := B.returns
  have hts := atoms_spec (ws := .code y_Md_highOf b_Md_highOf 3 (some .int) :: gBig) B.pre
  have hown : s.vm.findClass R_Md = some m.cls := findClass_of_methodNamed B.named
  have hlocks := B.notSynchronized
  have hS : va_S A s.heap s.heap [] := va_S.rf
  have hl := lv_entry ([.ref (a 0)]) (n := 3) (Nat.le_of_ble_eq_true rfl)
  rw [lg_entry_eq]
  generalize (lg_sl ([.ref (a 0)]) ++ List.replicate (3 - (lg_sl ([.ref (a 0)])).length) Slot.unset).toArray = ls at hl ⊢
  have hl : lv_has ls 3 [(0, .ref (a 0))] := hl
  show gGo l p e s m below meth c D t A 0 [.ref (a 0)] (wMd t a) (fun r u => r = mSum (σ 19) L ∧ u = σ) s.heap [] (F0 m 0 ls [])
  have cut_4 : ∀ (n : Nat) (k : Nat) (sm : Int32) (H : Heap) (locs : List Loc) (ls : Array Slot), k ≤ L → L + 1 ≤ k + n → sm = mSum (σ 19) k → va_P D gCl (wMd t a σ) H → va_D A (wMd t a σ) → va_S A s.heap H locs → lv_has ls 3 [(0, .ref (a 0)), (1, .int sm), (2, .int (nI k))] → gGo l p e s m below meth c D t A 0 [.ref (a 0)] (wMd t a) (fun r u => r = mSum (σ 19) L ∧ u = σ) H locs (F0 m 4 ls []) := by
    intro n
    induction n with
    | zero =>
      intro k sm H locs ls hk hf hs hP hD hS hl
      exact absurd hf (by omega)
    | succ n ih =>
      intro k sm H locs ls hk hf hs hP hD hS hl
      refine lv_iload_n hx hb d_Md_highOf_4 rfl (lv_at hl 2 rfl) ?_
      refine lv_aload_n hx hb d_Md_highOf_5 rfl (lv_at hl 0 rfl) ?_
      refine va_get (D := D) (ci := 7) (v := .int (σ 17 0)) (C := R_Md) (T := F_Md) (N := 34) hx hb hts (fun w h => List.mem_cons_of_mem _ (i_Md w h)) hown hK.1 hP 0 (wMd_0 t a σ) rfl 17 (by decide) (hts (.fieldLink R_Md 116 "FlatBoxesModel" "layers" "I") (List.mem_cons_of_mem _ (gIn k_683 (by decide +kernel)))) (fun _ h9 => h9) rfl d_Md_highOf_6 ?_
      refine lv_topi (fun v_1 e_1 => ?_)
      obtain rfl : v_1 = nI L := e_1.trans hL
      refine lv_icmp_ge (tgt := 27) hx hb d_Md_highOf_9 (by decide) (fun c_2 => ?_) (fun c_2 => ?_)
      · 
        have h_2 : L ≤ k := (nI_leI (a := L) (b := k) (by omega) (by omega)).mp c_2
        refine lv_iload_n hx hb d_Md_highOf_27 rfl (lv_at hl 1 rfl) ?_
        exact W.iret (v := sm) hx hb hr (fun U hU hW => ⟨⟨sm, σ, rfl, by exact ⟨by rw [hs]; congr 1; omega, rfl⟩, by rw [hU]; exact hP, hD⟩, hS.F hU⟩) hS.2.2 d_Md_highOf_28
      · 
        have h_2 : ¬ L ≤ k := fun q9 => c_2 ((nI_leI (a := L) (b := k) (by omega) (by omega)).mpr q9)
        refine lv_iload_n hx hb d_Md_highOf_12 rfl (lv_at hl 1 rfl) ?_
        refine lv_aload_n hx hb d_Md_highOf_13 rfl (lv_at hl 0 rfl) ?_
        refine va_get (D := D) (ci := 7) (v := .ref (a 19)) (C := R_Md) (T := F_Md) (N := 34) hx hb hts (fun w h => List.mem_cons_of_mem _ (i_Md w h)) hown hK.1 hP 0 (wMd_0 t a σ) rfl 19 (by decide) (hts (.fieldLink R_Md 53 "FlatBoxesModel" "highs" "[I") (List.mem_cons_of_mem _ (gIn k_685 (by decide +kernel)))) (fun _ h9 => h9) rfl d_Md_highOf_14 ?_
        refine lv_iload_n hx hb d_Md_highOf_17 rfl (lv_at hl 2 rfl) ?_
        refine g_iald hx hb hK.1 hP 15 0 (wMd_19 t a σ) rfl k (rfl) (by omega) (by decide) d_Md_highOf_18 ?_
        refine lv_iadd hx hb d_Md_highOf_19 ?_
        refine lv_istore_n (lv' := [(1, .int (sm + (σ 19 k))), (0, .ref (a 0)), (2, .int (nI k))]) hx hb d_Md_highOf_20 rfl hl (by decide) rfl (fun ls hl => ?_)
        refine lv_iinc (v := nI (k + 1)) (lv' := [(2, .int (nI (k + 1))), (1, .int (sm + (σ 19 k))), (0, .ref (a 0))]) hx hb d_Md_highOf_21 hl (k := 2) rfl (nI_1 k) (by decide) rfl (fun ls hl => ?_)
        refine lv_goto (tgt := 4) hx hb d_Md_highOf_24 (by decide) ?_
        exact ih (k + 1) (sm + (σ 19 k)) _ _ _ (by omega) (by omega) (by rw [hs]; rfl) hP hD hS (lv_sub hl [2, 1, 0] rfl)
  refine lv_iconst (v := 0) hx hb d_Md_highOf_0 (by decide) ?_
  refine lv_istore_n (lv' := [(1, .int 0), (0, .ref (a 0))]) hx hb d_Md_highOf_1 rfl hl (by decide) rfl (fun ls hl => ?_)
  refine lv_iconst (v := 0) hx hb d_Md_highOf_2 (by decide) ?_
  refine lv_istore_n (lv' := [(2, .int 0), (1, .int 0), (0, .ref (a 0))]) hx hb d_Md_highOf_3 rfl hl (by decide) rfl (fun ls hl => ?_)
  exact cut_4 (L + 1) 0 0 _ _ _ (by omega) (by omega) (by rfl) hP hD hS (lv_sub hl [2, 1, 0] rfl)
set_option maxHeartbeats 4000000 in
set_option maxRecDepth 100000 in
theorem c_Md_gramsOf (l : Launch) (D : va_G) (t : Nat → ClassId) (a : Nat → Nat) (σ : Nat → Nat → Int32) (set : Int32) (np : Nat) (hN : σ 8 0 = nI np) (hN8 : np ≤ 8) : gMi l D t y_Md_gramsOf b_Md_gramsOf 4 (some .int) 1 [.ref (a 0), .int set] (wMd t a σ) (wMd t a) (fun r u => r = mGrams σ set np ∧ u = σ) := by
  intro A
  refine Met.ofW (cc := b_Md_gramsOf) (maxL := 4) (ret := (some .int)) (by decide) rfl ?_
  intro p e s m args below meth c s₁ B hml hv
  obtain ⟨rfl, hK, hP, hD⟩ := hv
  have hx := B.exec
  have hb := B.bytes
  have hr := B.returns
  have hts := atoms_spec (ws := .code y_Md_gramsOf b_Md_gramsOf 4 (some .int) :: gBig) B.pre
  have hown : s.vm.findClass R_Md = some m.cls := findClass_of_methodNamed B.named
  have hlocks := B.notSynchronized
  have hS : va_S A s.heap s.heap [] := va_S.rf
  have hl := lv_entry ([.ref (a 0), .int set]) (n := 4) (Nat.le_of_ble_eq_true rfl)
  rw [lg_entry_eq]
  generalize (lg_sl ([.ref (a 0), .int set]) ++ List.replicate (4 - (lg_sl ([.ref (a 0), .int set])).length) Slot.unset).toArray = ls at hl ⊢
  have hl : lv_has ls 4 [(0, .ref (a 0)), (1, .int set)] := hl
  show gGo l p e s m below meth c D t A 1 [.ref (a 0), .int set] (wMd t a) (fun r u => r = mGrams σ set np ∧ u = σ) s.heap [] (F0 m 0 ls [])
  have cut_4 : ∀ (n : Nat) (k : Nat) (sm : Int32) (H : Heap) (locs : List Loc) (ls : Array Slot), k ≤ np → np + 1 ≤ k + n → sm = mGrams σ set k → va_P D gCl (wMd t a σ) H → va_D A (wMd t a σ) → va_S A s.heap H locs → lv_has ls 4 [(0, .ref (a 0)), (1, .int set), (2, .int sm), (3, .int (nI k))] → gGo l p e s m below meth c D t A 1 [.ref (a 0), .int set] (wMd t a) (fun r u => r = mGrams σ set np ∧ u = σ) H locs (F0 m 4 ls []) := by
    intro n
    induction n with
    | zero =>
      intro k sm H locs ls hk hf hs hP hD hS hl
      exact absurd hf (by omega)
    | succ n ih =>
      intro k sm H locs ls hk hf hs hP hD hS hl
      refine lv_iload_n hx hb d_Md_gramsOf_4 rfl (lv_at hl 3 rfl) ?_
      refine lv_aload_n hx hb d_Md_gramsOf_5 rfl (lv_at hl 0 rfl) ?_
      refine va_get (D := D) (ci := 7) (v := .int (σ 8 0)) (C := R_Md) (T := F_Md) (N := 34) hx hb hts (fun w h => List.mem_cons_of_mem _ (i_Md w h)) hown hK.1 hP 0 (wMd_0 t a σ) rfl 8 (by decide) (hts (.fieldLink R_Md 113 "FlatBoxesModel" "parts" "I") (List.mem_cons_of_mem _ (gIn k_674 (by decide +kernel)))) (fun _ h9 => h9) rfl d_Md_gramsOf_6 ?_
      refine lv_topi (fun v_1 e_1 => ?_)
      obtain rfl : v_1 = nI np := e_1.trans hN
      refine lv_icmp_ge (tgt := 40) hx hb d_Md_gramsOf_9 (by decide) (fun c_2 => ?_) (fun c_2 => ?_)
      · 
        have h_2 : np ≤ k := (nI_leI (a := np) (b := k) (by omega) (by omega)).mp c_2
        refine lv_iload_n hx hb d_Md_gramsOf_40 rfl (lv_at hl 2 rfl) ?_
        exact W.iret (v := sm) hx hb hr (fun U hU hW => ⟨⟨sm, σ, rfl, by exact ⟨by rw [hs]; congr 1; omega, rfl⟩, by rw [hU]; exact hP, hD⟩, hS.F hU⟩) hS.2.2 d_Md_gramsOf_41
      · 
        have h_2 : ¬ np ≤ k := fun q9 => c_2 ((nI_leI (a := np) (b := k) (by omega) (by omega)).mpr q9)
        refine lv_iload_n hx hb d_Md_gramsOf_12 rfl (lv_at hl 2 rfl) ?_
        refine lv_aload_n hx hb d_Md_gramsOf_13 rfl (lv_at hl 0 rfl) ?_
        refine lv_iload_n hx hb d_Md_gramsOf_14 rfl (lv_at hl 1 rfl) ?_
        refine lv_iload_n hx hb d_Md_gramsOf_15 rfl (lv_at hl 3 rfl) ?_
        refine g_vi (k := 2) (As := [.int set, .int (nI k)]) (rest := [.int sm]) (own := R_Md) (C := R_Md) (index := 123) ⟨hx, hb, hml, hown, hts⟩ (c_Md_has l D t a σ set (nI k)) (gg_Md_123 _) (by decide +kernel) ⟨Nat.le_of_ble_eq_true rfl, Nat.le_of_ble_eq_true rfl⟩ rfl (va_recv hK.1 hP (ci := 7) (q0 := 0) rfl (wMd_0 t a σ)) hK hP hD hS hl.1 rfl (Nat.le_of_ble_eq_true rfl) ⟨Nat.zero_le _, Nat.zero_le _⟩ d_Md_gramsOf_16 (fun r_3 u_3 H locs q_3 hP hD hS => ?_)
        obtain ⟨rfl, hu_3⟩ := q_3
        rw [hu_3] at hP hD
        refine lv_if_eq (tgt := 31) hx hb d_Md_gramsOf_19 (by decide) (fun c_4 => ?_) (fun c_4 => ?_)
        · 
          refine lv_iconst (v := 0) hx hb d_Md_gramsOf_31 (by decide) ?_
          refine lv_iadd hx hb d_Md_gramsOf_32 ?_
          refine lv_istore_n (lv' := [(2, .int (sm + 0)), (0, .ref (a 0)), (1, .int set), (3, .int (nI k))]) hx hb d_Md_gramsOf_33 rfl hl (by decide) rfl (fun ls hl => ?_)
          refine lv_iinc (v := nI (k + 1)) (lv' := [(3, .int (nI (k + 1))), (2, .int (sm + 0)), (0, .ref (a 0)), (1, .int set)]) hx hb d_Md_gramsOf_34 hl (k := 3) rfl (nI_1 k) (by decide) rfl (fun ls hl => ?_)
          refine lv_goto (tgt := 4) hx hb d_Md_gramsOf_37 (by decide) ?_
          exact ih (k + 1) (sm + 0) _ _ _ (by omega) (by omega) (by rw [hs]; simp [mGrams, c_2, c_4]) hP hD hS (lv_sub hl [2, 3, 1, 0] rfl)
        · 
          refine lv_aload_n hx hb d_Md_gramsOf_22 rfl (lv_at hl 0 rfl) ?_
          refine va_get (D := D) (ci := 7) (v := .ref (a 12)) (C := R_Md) (T := F_Md) (N := 34) hx hb hts (fun w h => List.mem_cons_of_mem _ (i_Md w h)) hown hK.1 hP 0 (wMd_0 t a σ) rfl 12 (by decide) (hts (.fieldLink R_Md 34 "FlatBoxesModel" "grams" "[I") (List.mem_cons_of_mem _ (gIn k_678 (by decide +kernel)))) (fun _ h9 => h9) rfl d_Md_gramsOf_23 ?_
          refine lv_iload_n hx hb d_Md_gramsOf_26 rfl (lv_at hl 3 rfl) ?_
          refine g_iald hx hb hK.1 hP 9 0 (wMd_12 t a σ) rfl k (rfl) (by omega) (by decide) d_Md_gramsOf_27 ?_
          refine lv_goto (tgt := 32) hx hb d_Md_gramsOf_28 (by decide) ?_
          refine lv_iadd hx hb d_Md_gramsOf_32 ?_
          refine lv_istore_n (lv' := [(2, .int (sm + (σ 12 k))), (0, .ref (a 0)), (1, .int set), (3, .int (nI k))]) hx hb d_Md_gramsOf_33 rfl hl (by decide) rfl (fun ls hl => ?_)
          refine lv_iinc (v := nI (k + 1)) (lv' := [(3, .int (nI (k + 1))), (2, .int (sm + (σ 12 k))), (0, .ref (a 0)), (1, .int set)]) hx hb d_Md_gramsOf_34 hl (k := 3) rfl (nI_1 k) (by decide) rfl (fun ls hl => ?_)
          refine lv_goto (tgt := 4) hx hb d_Md_gramsOf_37 (by decide) ?_
          exact ih (k + 1) (sm + (σ 12 k)) _ _ _ (by omega) (by omega) (by rw [hs]; simp [mGrams, c_2, c_4]) hP hD hS (lv_sub hl [2, 3, 1, 0] rfl)
  refine lv_iconst (v := 0) hx hb d_Md_gramsOf_0 (by decide) ?_
  refine lv_istore_n (lv' := [(2, .int 0), (0, .ref (a 0)), (1, .int set)]) hx hb d_Md_gramsOf_1 rfl hl (by decide) rfl (fun ls hl => ?_)
  refine lv_iconst (v := 0) hx hb d_Md_gramsOf_2 (by decide) ?_
  refine lv_istore_n (lv' := [(3, .int 0), (2, .int 0), (0, .ref (a 0)), (1, .int set)]) hx hb d_Md_gramsOf_3 rfl hl (by decide) rfl (fun ls hl => ?_)
  exact cut_4 (np + 1) 0 0 _ _ _ (by omega) (by omega) (by rfl) hP hD hS (lv_sub hl [2, 3, 1, 0] rfl)
end
section
def mBef (f : Nat → Int32) (q : Nat) : Nat → Int32
  | 0 => 0
  | r + 1 => mBef f q r + (if f q < f r then 1 else if ¬ f r = f q then 0 else if q ≤ r then 0 else 1)
def mBT (f : Nat → Int32) (np : Nat) (k : Int32) : Nat → Nat → Int32
  | 0, _ => -1
  | d + 1, q => if mBef f q np = k then nI q else mBT f np k d (q + 1)
def mRoom (f : Nat → Int32) (gap w wide : Int32) : Nat → Nat → Nat
  | 0, j => j
  | d + 1, j => if f j + gap + w ≤ wide then j else mRoom f gap w wide d (j + 1)
theorem mRoom_le (f : Nat → Int32) (gap w wide : Int32) : ∀ d j : Nat, mRoom f gap w wide d j ≤ j + d
  | 0, j => Nat.le_refl _
  | d + 1, j => by
    unfold mRoom
    split
    · omega
    · exact Nat.le_trans (mRoom_le f gap w wide d (j + 1)) (by omega)


set_option maxHeartbeats 4000000 in
set_option maxRecDepth 100000 in
theorem c_Md_byThickness (l : Launch) (D : va_G) (t : Nat → ClassId) (a : Nat → Nat) (σ : Nat → Nat → Int32) (k : Int32) (np : Nat) (hN : σ 8 0 = nI np) (hN8 : np ≤ 8) : gMi l D t y_Md_byThickness b_Md_byThickness 5 (some .int) 0 [.ref (a 0), .int k] (wMd t a σ) (wMd t a) (fun r u => r = mBT (σ 11) np k np 0 ∧ u = σ) := by
  intro A
  refine Met.ofW (cc := b_Md_byThickness) (maxL := 5) (ret := (some .int)) (by decide) rfl ?_
  intro p e s m args below meth c s₁ B hml hv
  obtain ⟨rfl, hK, hP, hD⟩ := hv
  have hx := B.exec
  have hb := B.bytes
  have hr := B.returns
  have hts := atoms_spec (ws := .code y_Md_byThickness b_Md_byThickness 5 (some .int) :: gBig) B.pre
  have hown : s.vm.findClass R_Md = some m.cls := findClass_of_methodNamed B.named
  have hlocks := B.notSynchronized
  have hS : va_S A s.heap s.heap [] := va_S.rf
  have hl := lv_entry ([.ref (a 0), .int k]) (n := 5) (Nat.le_of_ble_eq_true rfl)
  rw [lg_entry_eq]
  generalize (lg_sl ([.ref (a 0), .int k]) ++ List.replicate (5 - (lg_sl ([.ref (a 0), .int k])).length) Slot.unset).toArray = ls at hl ⊢
  have hl : lv_has ls 5 [(0, .ref (a 0)), (1, .int k)] := hl
  show gGo l p e s m below meth c D t A 0 [.ref (a 0), .int k] (wMd t a) (fun r u => r = mBT (σ 11) np k np 0 ∧ u = σ) s.heap [] (F0 m 0 ls [])
  have cut_15 : ∀ (n : Nat) (r : Nat) (q : Nat) (bf : Int32) (H : Heap) (locs : List Loc) (ls : Array Slot), r ≤ np → q < np → np + 1 ≤ r + n → bf = mBef (σ 11) q r → (∀ (H : Heap) (locs : List Loc) (ls : Array Slot), va_P D gCl (wMd t a σ) H → va_D A (wMd t a σ) → va_S A s.heap H locs → lv_has ls 5 [(0, .ref (a 0)), (1, .int k), (2, .int (nI q)), (3, .int (mBef (σ 11) q np))] → gGo l p e s m below meth c D t A 0 [.ref (a 0), .int k] (wMd t a) (fun r u => r = mBT (σ 11) np k np 0 ∧ u = σ) H locs (F0 m 76 ls [])) → va_P D gCl (wMd t a σ) H → va_D A (wMd t a σ) → va_S A s.heap H locs → lv_has ls 5 [(0, .ref (a 0)), (1, .int k), (2, .int (nI q)), (3, .int bf), (4, .int (nI r))] → gGo l p e s m below meth c D t A 0 [.ref (a 0), .int k] (wMd t a) (fun r u => r = mBT (σ 11) np k np 0 ∧ u = σ) H locs (F0 m 15 ls []) := by
    intro n
    induction n with
    | zero =>
      intro r q bf H locs ls hr1 hq hf hs hX hP hD hS hl
      exact absurd hf (by omega)
    | succ n ih =>
      intro r q bf H locs ls hr1 hq hf hs hX hP hD hS hl
      refine lv_iload hx hb d_Md_byThickness_15 (lv_at hl 4 rfl) ?_
      refine lv_aload_n hx hb d_Md_byThickness_17 rfl (lv_at hl 0 rfl) ?_
      refine va_get (D := D) (ci := 7) (v := .int (σ 8 0)) (C := R_Md) (T := F_Md) (N := 34) hx hb hts (fun w h => List.mem_cons_of_mem _ (i_Md w h)) hown hK.1 hP 0 (wMd_0 t a σ) rfl 8 (by decide) (hts (.fieldLink R_Md 113 "FlatBoxesModel" "parts" "I") (List.mem_cons_of_mem _ (gIn k_674 (by decide +kernel)))) (fun _ h9 => h9) rfl d_Md_byThickness_18 ?_
      refine lv_topi (fun v_1 e_1 => ?_)
      obtain rfl : v_1 = nI np := e_1.trans hN
      refine lv_icmp_ge (tgt := 76) hx hb d_Md_byThickness_21 (by decide) (fun c_2 => ?_) (fun c_2 => ?_)
      · 
        have h_2 : np ≤ r := (nI_leI (a := np) (b := r) (by omega) (by omega)).mp c_2
        obtain rfl : r = np := by omega
        subst hs
        exact hX _ _ _  hP hD hS (lv_sub hl [0, 1, 2, 3] rfl)
      · 
        have h_2 : ¬ np ≤ r := fun q9 => c_2 ((nI_leI (a := np) (b := r) (by omega) (by omega)).mpr q9)
        refine lv_iload_n hx hb d_Md_byThickness_24 rfl (lv_at hl 3 rfl) ?_
        refine lv_aload_n hx hb d_Md_byThickness_25 rfl (lv_at hl 0 rfl) ?_
        refine va_get (D := D) (ci := 7) (v := .ref (a 11)) (C := R_Md) (T := F_Md) (N := 34) hx hb hts (fun w h => List.mem_cons_of_mem _ (i_Md w h)) hown hK.1 hP 0 (wMd_0 t a σ) rfl 11 (by decide) (hts (.fieldLink R_Md 31 "FlatBoxesModel" "thicks" "[I") (List.mem_cons_of_mem _ (gIn k_677 (by decide +kernel)))) (fun _ h9 => h9) rfl d_Md_byThickness_26 ?_
        refine lv_iload hx hb d_Md_byThickness_29 (lv_at hl 4 rfl) ?_
        refine g_iald hx hb hK.1 hP 8 0 (wMd_11 t a σ) rfl r (rfl) (by omega) (by decide) d_Md_byThickness_31 ?_
        refine lv_aload_n hx hb d_Md_byThickness_32 rfl (lv_at hl 0 rfl) ?_
        refine va_get (D := D) (ci := 7) (v := .ref (a 11)) (C := R_Md) (T := F_Md) (N := 34) hx hb hts (fun w h => List.mem_cons_of_mem _ (i_Md w h)) hown hK.1 hP 0 (wMd_0 t a σ) rfl 11 (by decide) (hts (.fieldLink R_Md 31 "FlatBoxesModel" "thicks" "[I") (List.mem_cons_of_mem _ (gIn k_677 (by decide +kernel)))) (fun _ h9 => h9) rfl d_Md_byThickness_33 ?_
        refine lv_iload_n hx hb d_Md_byThickness_36 rfl (lv_at hl 2 rfl) ?_
        refine g_iald hx hb hK.1 hP 8 0 (wMd_11 t a σ) rfl q (rfl) (by omega) (by decide) d_Md_byThickness_37 ?_
        refine lv_icmp_gt (tgt := 63) hx hb d_Md_byThickness_38 (by decide) (fun c_3 => ?_) (fun c_3 => ?_)
        · 
          refine lv_iconst (v := 1) hx hb d_Md_byThickness_63 (by decide) ?_
          refine lv_goto (tgt := 68) hx hb d_Md_byThickness_64 (by decide) ?_
          refine lv_iadd hx hb d_Md_byThickness_68 ?_
          refine lv_istore_n (lv' := [(3, .int (bf + 1)), (0, .ref (a 0)), (1, .int k), (2, .int (nI q)), (4, .int (nI r))]) hx hb d_Md_byThickness_69 rfl hl (by decide) rfl (fun ls hl => ?_)
          refine lv_iinc (v := nI (r + 1)) (lv' := [(4, .int (nI (r + 1))), (3, .int (bf + 1)), (0, .ref (a 0)), (1, .int k), (2, .int (nI q))]) hx hb d_Md_byThickness_70 hl (k := 4) rfl (nI_1 r) (by decide) rfl (fun ls hl => ?_)
          refine lv_goto (tgt := 15) hx hb d_Md_byThickness_73 (by decide) ?_
          exact ih (r + 1) q (bf + 1) _ _ _ (by omega) (by omega) (by omega) (by rw [hs]; simp [mBef, c_2, h_2, c_3]) hX hP hD hS (lv_sub hl [2, 3, 4, 1, 0] rfl)
        · 
          refine lv_aload_n hx hb d_Md_byThickness_41 rfl (lv_at hl 0 rfl) ?_
          refine va_get (D := D) (ci := 7) (v := .ref (a 11)) (C := R_Md) (T := F_Md) (N := 34) hx hb hts (fun w h => List.mem_cons_of_mem _ (i_Md w h)) hown hK.1 hP 0 (wMd_0 t a σ) rfl 11 (by decide) (hts (.fieldLink R_Md 31 "FlatBoxesModel" "thicks" "[I") (List.mem_cons_of_mem _ (gIn k_677 (by decide +kernel)))) (fun _ h9 => h9) rfl d_Md_byThickness_42 ?_
          refine lv_iload hx hb d_Md_byThickness_45 (lv_at hl 4 rfl) ?_
          refine g_iald hx hb hK.1 hP 8 0 (wMd_11 t a σ) rfl r (rfl) (by omega) (by decide) d_Md_byThickness_47 ?_
          refine lv_aload_n hx hb d_Md_byThickness_48 rfl (lv_at hl 0 rfl) ?_
          refine va_get (D := D) (ci := 7) (v := .ref (a 11)) (C := R_Md) (T := F_Md) (N := 34) hx hb hts (fun w h => List.mem_cons_of_mem _ (i_Md w h)) hown hK.1 hP 0 (wMd_0 t a σ) rfl 11 (by decide) (hts (.fieldLink R_Md 31 "FlatBoxesModel" "thicks" "[I") (List.mem_cons_of_mem _ (gIn k_677 (by decide +kernel)))) (fun _ h9 => h9) rfl d_Md_byThickness_49 ?_
          refine lv_iload_n hx hb d_Md_byThickness_52 rfl (lv_at hl 2 rfl) ?_
          refine g_iald hx hb hK.1 hP 8 0 (wMd_11 t a σ) rfl q (rfl) (by omega) (by decide) d_Md_byThickness_53 ?_
          refine lv_icmp_ne (tgt := 67) hx hb d_Md_byThickness_54 (by decide) (fun c_4 => ?_) (fun c_4 => ?_)
          · 
            refine lv_iconst (v := 0) hx hb d_Md_byThickness_67 (by decide) ?_
            refine lv_iadd hx hb d_Md_byThickness_68 ?_
            refine lv_istore_n (lv' := [(3, .int (bf + 0)), (0, .ref (a 0)), (1, .int k), (2, .int (nI q)), (4, .int (nI r))]) hx hb d_Md_byThickness_69 rfl hl (by decide) rfl (fun ls hl => ?_)
            refine lv_iinc (v := nI (r + 1)) (lv' := [(4, .int (nI (r + 1))), (3, .int (bf + 0)), (0, .ref (a 0)), (1, .int k), (2, .int (nI q))]) hx hb d_Md_byThickness_70 hl (k := 4) rfl (nI_1 r) (by decide) rfl (fun ls hl => ?_)
            refine lv_goto (tgt := 15) hx hb d_Md_byThickness_73 (by decide) ?_
            exact ih (r + 1) q (bf + 0) _ _ _ (by omega) (by omega) (by omega) (by rw [hs]; simp [mBef, c_2, h_2, c_3, c_4]) hX hP hD hS (lv_sub hl [2, 3, 4, 1, 0] rfl)
          · 
            refine lv_iload hx hb d_Md_byThickness_57 (lv_at hl 4 rfl) ?_
            refine lv_iload_n hx hb d_Md_byThickness_59 rfl (lv_at hl 2 rfl) ?_
            refine lv_icmp_ge (tgt := 67) hx hb d_Md_byThickness_60 (by decide) (fun c_5 => ?_) (fun c_5 => ?_)
            · 
              have h_5 : q ≤ r := (nI_leI (a := q) (b := r) (by omega) (by omega)).mp c_5
              refine lv_iconst (v := 0) hx hb d_Md_byThickness_67 (by decide) ?_
              refine lv_iadd hx hb d_Md_byThickness_68 ?_
              refine lv_istore_n (lv' := [(3, .int (bf + 0)), (0, .ref (a 0)), (1, .int k), (2, .int (nI q)), (4, .int (nI r))]) hx hb d_Md_byThickness_69 rfl hl (by decide) rfl (fun ls hl => ?_)
              refine lv_iinc (v := nI (r + 1)) (lv' := [(4, .int (nI (r + 1))), (3, .int (bf + 0)), (0, .ref (a 0)), (1, .int k), (2, .int (nI q))]) hx hb d_Md_byThickness_70 hl (k := 4) rfl (nI_1 r) (by decide) rfl (fun ls hl => ?_)
              refine lv_goto (tgt := 15) hx hb d_Md_byThickness_73 (by decide) ?_
              exact ih (r + 1) q (bf + 0) _ _ _ (by omega) (by omega) (by omega) (by rw [hs]; simp [mBef, c_2, h_2, c_3, c_4, c_5, h_5]) hX hP hD hS (lv_sub hl [2, 3, 4, 1, 0] rfl)
            · 
              have h_5 : ¬ q ≤ r := fun q9 => c_5 ((nI_leI (a := q) (b := r) (by omega) (by omega)).mpr q9)
              refine lv_iconst (v := 1) hx hb d_Md_byThickness_63 (by decide) ?_
              refine lv_goto (tgt := 68) hx hb d_Md_byThickness_64 (by decide) ?_
              refine lv_iadd hx hb d_Md_byThickness_68 ?_
              refine lv_istore_n (lv' := [(3, .int (bf + 1)), (0, .ref (a 0)), (1, .int k), (2, .int (nI q)), (4, .int (nI r))]) hx hb d_Md_byThickness_69 rfl hl (by decide) rfl (fun ls hl => ?_)
              refine lv_iinc (v := nI (r + 1)) (lv' := [(4, .int (nI (r + 1))), (3, .int (bf + 1)), (0, .ref (a 0)), (1, .int k), (2, .int (nI q))]) hx hb d_Md_byThickness_70 hl (k := 4) rfl (nI_1 r) (by decide) rfl (fun ls hl => ?_)
              refine lv_goto (tgt := 15) hx hb d_Md_byThickness_73 (by decide) ?_
              exact ih (r + 1) q (bf + 1) _ _ _ (by omega) (by omega) (by omega) (by rw [hs]; simp [mBef, c_2, h_2, c_3, c_4, c_5, h_5]) hX hP hD hS (lv_sub hl [2, 3, 4, 1, 0] rfl)
  have cut_2 : ∀ (n : Nat) (d : Nat) (q : Nat) (H : Heap) (locs : List Loc) (ls : Array Slot), q + d = np → d + 1 ≤ n → mBT (σ 11) np k np 0 = mBT (σ 11) np k d q → va_P D gCl (wMd t a σ) H → va_D A (wMd t a σ) → va_S A s.heap H locs → lv_has ls 5 [(0, .ref (a 0)), (1, .int k), (2, .int (nI q))] → gGo l p e s m below meth c D t A 0 [.ref (a 0), .int k] (wMd t a) (fun r u => r = mBT (σ 11) np k np 0 ∧ u = σ) H locs (F0 m 2 ls []) := by
    intro n
    induction n with
    | zero =>
      intro d q H locs ls hd hf hs hP hD hS hl
      exact absurd hf (by omega)
    | succ n ih =>
      intro d q H locs ls hd hf hs hP hD hS hl
      refine lv_iload_n hx hb d_Md_byThickness_2 rfl (lv_at hl 2 rfl) ?_
      refine lv_aload_n hx hb d_Md_byThickness_3 rfl (lv_at hl 0 rfl) ?_
      refine va_get (D := D) (ci := 7) (v := .int (σ 8 0)) (C := R_Md) (T := F_Md) (N := 34) hx hb hts (fun w h => List.mem_cons_of_mem _ (i_Md w h)) hown hK.1 hP 0 (wMd_0 t a σ) rfl 8 (by decide) (hts (.fieldLink R_Md 113 "FlatBoxesModel" "parts" "I") (List.mem_cons_of_mem _ (gIn k_674 (by decide +kernel)))) (fun _ h9 => h9) rfl d_Md_byThickness_4 ?_
      refine lv_topi (fun v_6 e_6 => ?_)
      obtain rfl : v_6 = nI np := e_6.trans hN
      refine lv_icmp_ge (tgt := 89) hx hb d_Md_byThickness_7 (by decide) (fun c_7 => ?_) (fun c_7 => ?_)
      · 
        have h_7 : np ≤ q := (nI_leI (a := np) (b := q) (by omega) (by omega)).mp c_7
        refine lv_iconst (v := -1) hx hb d_Md_byThickness_89 (by decide) ?_
        exact W.iret (v := -1) hx hb hr (fun U hU hW => ⟨⟨-1, σ, rfl, by exact ⟨by rw [hs]; obtain rfl : d = 0 := (by omega); rfl, rfl⟩, by rw [hU]; exact hP, hD⟩, hS.F hU⟩) hS.2.2 d_Md_byThickness_90
      · 
        have h_7 : ¬ np ≤ q := fun q9 => c_7 ((nI_leI (a := np) (b := q) (by omega) (by omega)).mpr q9)
        obtain ⟨d, rfl⟩ : ∃ d9, d = d9 + 1 := ⟨d - 1, by omega⟩
        refine lv_iconst (v := 0) hx hb d_Md_byThickness_10 (by decide) ?_
        refine lv_istore_n (lv' := [(3, .int 0), (0, .ref (a 0)), (1, .int k), (2, .int (nI q))]) hx hb d_Md_byThickness_11 rfl hl (by decide) rfl (fun ls hl => ?_)
        refine lv_iconst (v := 0) hx hb d_Md_byThickness_12 (by decide) ?_
        refine lv_istore (lv' := [(4, .int 0), (3, .int 0), (0, .ref (a 0)), (1, .int k), (2, .int (nI q))]) hx hb d_Md_byThickness_13 hl (by decide) rfl (fun ls hl => ?_)
        refine cut_15 (np + 1) 0 q 0 _ _ _ (by omega) (by omega) (by omega) (by rfl) (fun H locs ls  hP hD hS hl => ?_) hP hD hS (lv_sub hl [2, 3, 4, 1, 0] rfl)
        refine lv_iload_n hx hb d_Md_byThickness_76 rfl (lv_at hl 3 rfl) ?_
        refine lv_iload_n hx hb d_Md_byThickness_77 rfl (lv_at hl 1 rfl) ?_
        refine lv_icmp_ne (tgt := 83) hx hb d_Md_byThickness_78 (by decide) (fun c_8 => ?_) (fun c_8 => ?_)
        · 
          refine lv_iinc (v := nI (q + 1)) (lv' := [(2, .int (nI (q + 1))), (0, .ref (a 0)), (1, .int k), (3, .int (mBef (σ 11) q np))]) hx hb d_Md_byThickness_83 hl (k := 2) rfl (nI_1 q) (by decide) rfl (fun ls hl => ?_)
          refine lv_goto (tgt := 2) hx hb d_Md_byThickness_86 (by decide) ?_
          exact ih d (q + 1) _ _ _ (by omega) (by omega) (by rw [hs]; simp [mBT, c_7, h_7, c_8]) hP hD hS (lv_sub hl [1, 2, 0] rfl)
        · 
          refine lv_iload_n hx hb d_Md_byThickness_81 rfl (lv_at hl 2 rfl) ?_
          exact W.iret (v := nI q) hx hb hr (fun U hU hW => ⟨⟨nI q, σ, rfl, by exact ⟨by rw [hs]; simp [mBT, c_7, h_7, c_8], rfl⟩, by rw [hU]; exact hP, hD⟩, hS.F hU⟩) hS.2.2 d_Md_byThickness_82
  refine lv_iconst (v := 0) hx hb d_Md_byThickness_0 (by decide) ?_
  refine lv_istore_n (lv' := [(2, .int 0), (0, .ref (a 0)), (1, .int k)]) hx hb d_Md_byThickness_1 rfl hl (by decide) rfl (fun ls hl => ?_)
  exact cut_2 (np + 1) np 0 _ _ _ (by omega) (by omega) (rfl) hP hD hS (lv_sub hl [1, 2, 0] rfl)
end
section
def mOpen (σ : Nat → Nat → Int32) (q j : Nat) : Nat → Nat → Int32 := gSt (gSt (gSt (gSt (gSt (gSt σ 18 j (-(σ 1 0))) 19 j (σ 11 q)) 20 j 0) 21 j (σ 13 q)) 22 j 0) 17 0 (σ 17 0 + 1)
def mLay3 (τ : Nat → Nat → Int32) (q j : Nat) : Nat → Nat → Int32 := gSt τ 22 j (if ¬ τ 22 j = 0 then 1 else if τ 14 q = 0 then 0 else 1)
def mLay2 (τ : Nat → Nat → Int32) (q j : Nat) : Nat → Nat → Int32 := mLay3 (gSt τ 21 j (if τ 21 j ≤ τ 13 q then τ 21 j else τ 13 q)) q j
def mLay (τ : Nat → Nat → Int32) (q j : Nat) : Nat → Nat → Int32 := mLay2 (gSt (gSt (gSt (gSt τ 15 q (nI j)) 16 q (τ 18 j + τ 1 0)) 18 j (gSt (gSt τ 15 q (nI j)) 16 q (τ 18 j + τ 1 0) 16 q + τ 9 q)) 20 j (τ 20 j + τ 12 q)) q j
def mRm (τ : Nat → Nat → Int32) (q c L : Nat) : Nat := mRoom (τ 18) (τ 1 0) (τ 9 q) (τ 3 c) L 0
def mPlace (σ : Nat → Nat → Int32) (q c L : Nat) : Nat → Nat → Int32 := if mRm σ q c L = L then mLay (mOpen σ q (mRm σ q c L)) q (mRm σ q c L) else mLay σ q (mRm σ q c L)
def mNewL (τ : Nat → Nat → Int32) (q c L : Nat) : Nat := if mRm τ q c L = L then L + 1 else L
theorem mNewL_le (τ : Nat → Nat → Int32) (q c L : Nat) : mNewL τ q c L ≤ L + 1 := by unfold mNewL; split <;> omega
theorem gSt_ne (σ : Nat → Nat → Int32) (k i : Nat) (x : Int32) {j : Nat} (h : j ≠ k) : gSt σ k i x j = σ j := by unfold gSt gUp; rw [if_neg h]
theorem gSt_eq (σ : Nat → Nat → Int32) (k i : Nat) (x : Int32) : gSt σ k i x k = upd (σ k) i x := by unfold gSt gUp; rw [if_pos rfl]
theorem mLay_fix (τ : Nat → Nat → Int32) (q j : Nat) {i : Nat} (h : i < 15 ∨ 22 < i ∨ i = 17) : mLay τ q j i = τ i := by
  unfold mLay mLay2 mLay3
  repeat rw [gSt_ne _ _ _ _ (by omega)]
theorem mOpen_fix (τ : Nat → Nat → Int32) (q j : Nat) {i : Nat} (h : i < 15 ∨ 22 < i) : mOpen τ q j i = τ i := by
  unfold mOpen
  repeat rw [gSt_ne _ _ _ _ (by omega)]
theorem mPlace_fix (τ : Nat → Nat → Int32) (q c L : Nat) {i : Nat} (h : i < 15 ∨ 22 < i) : mPlace τ q c L i = τ i := by
  unfold mPlace
  split
  · rw [mLay_fix _ _ _ (by omega), mOpen_fix _ _ _ h]
  · rw [mLay_fix _ _ _ (by omega)]
theorem mPlace_L {τ : Nat → Nat → Int32} {q c L : Nat} (h : τ 17 0 = nI L) : mPlace τ q c L 17 0 = nI (mNewL τ q c L) := by
  unfold mPlace mNewL
  split
  · rw [mLay_fix _ _ _ (by omega), ← nI_1, ← h]; rfl
  · rw [mLay_fix _ _ _ (by omega), h]
def mFit (f : Int32) (τ : Nat → Nat → Int32) (q c : Nat) : Int32 := if f = 0 then 0 else if τ 3 c < τ 9 q then 0 else if τ 4 c < τ 10 q then 0 else 1
def mPk (σ : Nat → Nat → Int32) (ord : Nat → Nat) (set : Int32) (c : Nat) : Nat → (Nat → Nat → Int32) × Int32 × Int32
  | 0 => (gSt σ 17 0 0, 1, 0)
  | k + 1 => if mHas set (nI (ord k)) = 0 then mPk σ ord set c k else (mPlace (mPk σ ord set c k).1 (ord k) c ((mPk σ ord set c k).1 17 0).toNatClampNeg, mFit (mPk σ ord set c k).2.1 (mPk σ ord set c k).1 (ord k) c, (mPk σ ord set c k).2.2 + (mPk σ ord set c k).1 12 (ord k))
def mCnt (f : Nat → Int32) : Nat → Int32
  | 0 => 0
  | k + 1 => mCnt f k + (if f k = 0 then 0 else 1)
def mLn (τ : Nat → Nat → Int32) : Nat := (τ 17 0).toNatClampNeg
theorem mLn_eq {τ : Nat → Nat → Int32} {L : Nat} (h : τ 17 0 = nI L) (hL : L ≤ 8) : mLn τ = L := by unfold mLn; rw [h, nI_clamp (by omega)]
def mPackR (X : (Nat → Nat → Int32) × Int32 × Int32) (c : Nat) : Int32 := if X.2.1 = 0 then 0 else if X.1 5 c < mSum (X.1 19) (mLn X.1) then 0 else if X.1 7 c < X.2.2 then 0 else if 2 ≤ mCnt (X.1 22) (mLn X.1) then 0 else 1
theorem mPackR01 (X : (Nat → Nat → Int32) × Int32 × Int32) (c : Nat) : mPackR X c = 0 ∨ mPackR X c = 1 := by
  unfold mPackR
  split
  · exact Or.inl rfl
  · split
    · exact Or.inl rfl
    · split
      · exact Or.inl rfl
      · split
        · exact Or.inl rfl
        · exact Or.inr rfl


set_option maxHeartbeats 4000000 in
set_option maxRecDepth 100000 in
theorem c_Md_place (l : Launch) (D : va_G) (t : Nat → ClassId) (a : Nat → Nat) (σ : Nat → Nat → Int32) (q cc L : Nat) (hL : σ 17 0 = nI L) (hL7 : L < 8) (hq : q < 8) (hc : cc < 4) : gMv l D t y_Md_place b_Md_place 4 0 [.ref (a 0), .int (nI q), .int (nI cc)] (wMd t a σ) (wMd t a) (fun u => u = mPlace σ q cc L) := by
  intro A
  refine Met.ofW (cc := b_Md_place) (maxL := 4) (ret := none) (by decide) rfl ?_
  intro p e s m args below meth c s₁ B hml hv
  obtain ⟨rfl, hK, hP, hD⟩ := hv
  have hx := B.exec
  have hb := B.bytes
  have hr := B.returns
  have hts := atoms_spec (ws := .code y_Md_place b_Md_place 4 none :: gBig) B.pre
  have hown : s.vm.findClass R_Md = some m.cls := findClass_of_methodNamed B.named
  have hlocks := B.notSynchronized
  have hS : va_S A s.heap s.heap [] := va_S.rf
  have hl := lv_entry ([.ref (a 0), .int (nI q), .int (nI cc)]) (n := 4) (Nat.le_of_ble_eq_true rfl)
  rw [lg_entry_eq]
  generalize (lg_sl ([.ref (a 0), .int (nI q), .int (nI cc)]) ++ List.replicate (4 - (lg_sl ([.ref (a 0), .int (nI q), .int (nI cc)])).length) Slot.unset).toArray = ls at hl ⊢
  have hl : lv_has ls 4 [(0, .ref (a 0)), (1, .int (nI q)), (2, .int (nI cc))] := hl
  show gGov l p e s m below meth c D t A 0 [.ref (a 0), .int (nI q), .int (nI cc)] (wMd t a) (fun u => u = mPlace σ q cc L) s.heap [] (F0 m 0 ls [])
  have cut_204 : ∀ (j : Nat) (τ : Nat → Nat → Int32) (H : Heap) (locs : List Loc) (ls : Array Slot), j < 8 → mPlace σ q cc L = mLay3 τ q j → va_P D gCl (wMd t a τ) H → va_D A (wMd t a τ) → va_S A s.heap H locs → lv_has ls 4 [(0, .ref (a 0)), (1, .int (nI q)), (2, .int (nI cc)), (3, .int (nI j))] → gGov l p e s m below meth c D t A 0 [.ref (a 0), .int (nI q), .int (nI cc)] (wMd t a) (fun u => u = mPlace σ q cc L) H locs (F0 m 204 ls []) := by
    intro j τ H locs ls hj8 hτ hP hD hS hl
    refine lv_aload_n hx hb d_Md_place_204 rfl (lv_at hl 0 rfl) ?_
    refine va_get (D := D) (ci := 7) (v := .ref (a 22)) (C := R_Md) (T := F_Md) (N := 34) hx hb hts (fun w h => List.mem_cons_of_mem _ (i_Md w h)) hown hK.1 hP 0 (wMd_0 t a τ) rfl 22 (by decide) (hts (.fieldLink R_Md 62 "FlatBoxesModel" "breaks" "[Z") (List.mem_cons_of_mem _ (gIn k_688 (by decide +kernel)))) (fun _ h9 => h9) rfl d_Md_place_205 ?_
    refine lv_iload_n hx hb d_Md_place_208 rfl (lv_at hl 3 rfl) ?_
    refine lv_aload_n hx hb d_Md_place_209 rfl (lv_at hl 0 rfl) ?_
    refine va_get (D := D) (ci := 7) (v := .ref (a 22)) (C := R_Md) (T := F_Md) (N := 34) hx hb hts (fun w h => List.mem_cons_of_mem _ (i_Md w h)) hown hK.1 hP 0 (wMd_0 t a τ) rfl 22 (by decide) (hts (.fieldLink R_Md 62 "FlatBoxesModel" "breaks" "[Z") (List.mem_cons_of_mem _ (gIn k_688 (by decide +kernel)))) (fun _ h9 => h9) rfl d_Md_place_210 ?_
    refine lv_iload_n hx hb d_Md_place_213 rfl (lv_at hl 3 rfl) ?_
    refine g_zald hx hb hK.1 hP 18 1 (wMd_22 t a τ) rfl j (rfl) (by omega) (by decide) d_Md_place_214 ?_
    refine lv_if_ne (tgt := 227) hx hb d_Md_place_215 (by decide) (fun c_1 => ?_) (fun c_1 => ?_)
    · 
      refine lv_iconst (v := 1) hx hb d_Md_place_227 (by decide) ?_
      refine lv_goto (tgt := 232) hx hb d_Md_place_228 (by decide) ?_
      refine g_zast hx hb hK.1 hP hD hS 18 1 (wMd_22 t a τ) rfl (Or.inr rfl) j (rfl) (by omega) (by decide) (w' := wMd t a (gSt τ 22 j 1)) (sMd_22 t a τ j 1) d_Md_place_232 (fun H locs hP hD hS => ?_)
      exact W.vret hx hb hr (fun U hU hW => ⟨⟨gSt τ 22 j 1, rfl, by rw [hτ]; simp [mLay3, c_1], by rw [hU]; exact hP, hD⟩, hS.F hU⟩) hS.2.2 d_Md_place_233
    · 
      refine lv_aload_n hx hb d_Md_place_218 rfl (lv_at hl 0 rfl) ?_
      refine va_get (D := D) (ci := 7) (v := .ref (a 14)) (C := R_Md) (T := F_Md) (N := 34) hx hb hts (fun w h => List.mem_cons_of_mem _ (i_Md w h)) hown hK.1 hP 0 (wMd_0 t a τ) rfl 14 (by decide) (hts (.fieldLink R_Md 40 "FlatBoxesModel" "fragiles" "[Z") (List.mem_cons_of_mem _ (gIn k_680 (by decide +kernel)))) (fun _ h9 => h9) rfl d_Md_place_219 ?_
      refine lv_iload_n hx hb d_Md_place_222 rfl (lv_at hl 1 rfl) ?_
      refine g_zald hx hb hK.1 hP 11 1 (wMd_14 t a τ) rfl q (rfl) (by omega) (by decide) d_Md_place_223 ?_
      refine lv_if_eq (tgt := 231) hx hb d_Md_place_224 (by decide) (fun c_2 => ?_) (fun c_2 => ?_)
      · 
        refine lv_iconst (v := 0) hx hb d_Md_place_231 (by decide) ?_
        refine g_zast hx hb hK.1 hP hD hS 18 1 (wMd_22 t a τ) rfl (Or.inl rfl) j (rfl) (by omega) (by decide) (w' := wMd t a (gSt τ 22 j 0)) (sMd_22 t a τ j 0) d_Md_place_232 (fun H locs hP hD hS => ?_)
        exact W.vret hx hb hr (fun U hU hW => ⟨⟨gSt τ 22 j 0, rfl, by rw [hτ]; simp [mLay3, c_1, c_2], by rw [hU]; exact hP, hD⟩, hS.F hU⟩) hS.2.2 d_Md_place_233
      · 
        refine lv_iconst (v := 1) hx hb d_Md_place_227 (by decide) ?_
        refine lv_goto (tgt := 232) hx hb d_Md_place_228 (by decide) ?_
        refine g_zast hx hb hK.1 hP hD hS 18 1 (wMd_22 t a τ) rfl (Or.inr rfl) j (rfl) (by omega) (by decide) (w' := wMd t a (gSt τ 22 j 1)) (sMd_22 t a τ j 1) d_Md_place_232 (fun H locs hP hD hS => ?_)
        exact W.vret hx hb hr (fun U hU hW => ⟨⟨gSt τ 22 j 1, rfl, by rw [hτ]; simp [mLay3, c_1, c_2], by rw [hU]; exact hP, hD⟩, hS.F hU⟩) hS.2.2 d_Md_place_233
  have cut_168 : ∀ (j : Nat) (τ : Nat → Nat → Int32) (H : Heap) (locs : List Loc) (ls : Array Slot), j < 8 → mPlace σ q cc L = mLay2 τ q j → va_P D gCl (wMd t a τ) H → va_D A (wMd t a τ) → va_S A s.heap H locs → lv_has ls 4 [(0, .ref (a 0)), (1, .int (nI q)), (2, .int (nI cc)), (3, .int (nI j))] → gGov l p e s m below meth c D t A 0 [.ref (a 0), .int (nI q), .int (nI cc)] (wMd t a) (fun u => u = mPlace σ q cc L) H locs (F0 m 168 ls []) := by
    intro j τ H locs ls hj8 hτ hP hD hS hl
    refine lv_aload_n hx hb d_Md_place_168 rfl (lv_at hl 0 rfl) ?_
    refine va_get (D := D) (ci := 7) (v := .ref (a 21)) (C := R_Md) (T := F_Md) (N := 34) hx hb hts (fun w h => List.mem_cons_of_mem _ (i_Md w h)) hown hK.1 hP 0 (wMd_0 t a τ) rfl 21 (by decide) (hts (.fieldLink R_Md 59 "FlatBoxesModel" "firsts" "[I") (List.mem_cons_of_mem _ (gIn k_687 (by decide +kernel)))) (fun _ h9 => h9) rfl d_Md_place_169 ?_
    refine lv_iload_n hx hb d_Md_place_172 rfl (lv_at hl 3 rfl) ?_
    refine lv_aload_n hx hb d_Md_place_173 rfl (lv_at hl 0 rfl) ?_
    refine va_get (D := D) (ci := 7) (v := .ref (a 13)) (C := R_Md) (T := F_Md) (N := 34) hx hb hts (fun w h => List.mem_cons_of_mem _ (i_Md w h)) hown hK.1 hP 0 (wMd_0 t a τ) rfl 13 (by decide) (hts (.fieldLink R_Md 37 "FlatBoxesModel" "steps" "[I") (List.mem_cons_of_mem _ (gIn k_679 (by decide +kernel)))) (fun _ h9 => h9) rfl d_Md_place_174 ?_
    refine lv_iload_n hx hb d_Md_place_177 rfl (lv_at hl 1 rfl) ?_
    refine g_iald hx hb hK.1 hP 10 0 (wMd_13 t a τ) rfl q (rfl) (by omega) (by decide) d_Md_place_178 ?_
    refine lv_aload_n hx hb d_Md_place_179 rfl (lv_at hl 0 rfl) ?_
    refine va_get (D := D) (ci := 7) (v := .ref (a 21)) (C := R_Md) (T := F_Md) (N := 34) hx hb hts (fun w h => List.mem_cons_of_mem _ (i_Md w h)) hown hK.1 hP 0 (wMd_0 t a τ) rfl 21 (by decide) (hts (.fieldLink R_Md 59 "FlatBoxesModel" "firsts" "[I") (List.mem_cons_of_mem _ (gIn k_687 (by decide +kernel)))) (fun _ h9 => h9) rfl d_Md_place_180 ?_
    refine lv_iload_n hx hb d_Md_place_183 rfl (lv_at hl 3 rfl) ?_
    refine g_iald hx hb hK.1 hP 17 0 (wMd_21 t a τ) rfl j (rfl) (by omega) (by decide) d_Md_place_184 ?_
    refine lv_icmp_ge (tgt := 197) hx hb d_Md_place_185 (by decide) (fun c_3 => ?_) (fun c_3 => ?_)
    · 
      refine lv_aload_n hx hb d_Md_place_197 rfl (lv_at hl 0 rfl) ?_
      refine va_get (D := D) (ci := 7) (v := .ref (a 21)) (C := R_Md) (T := F_Md) (N := 34) hx hb hts (fun w h => List.mem_cons_of_mem _ (i_Md w h)) hown hK.1 hP 0 (wMd_0 t a τ) rfl 21 (by decide) (hts (.fieldLink R_Md 59 "FlatBoxesModel" "firsts" "[I") (List.mem_cons_of_mem _ (gIn k_687 (by decide +kernel)))) (fun _ h9 => h9) rfl d_Md_place_198 ?_
      refine lv_iload_n hx hb d_Md_place_201 rfl (lv_at hl 3 rfl) ?_
      refine g_iald hx hb hK.1 hP 17 0 (wMd_21 t a τ) rfl j (rfl) (by omega) (by decide) d_Md_place_202 ?_
      refine g_iast hx hb hK.1 hP hD hS 17 0 (wMd_21 t a τ) rfl j (rfl) (by omega) (by decide) (w' := wMd t a (gSt τ 21 j (τ 21 j))) (sMd_21 t a τ j (τ 21 j)) d_Md_place_203 (fun H locs hP hD hS => ?_)
      exact cut_204 j (gSt τ 21 j (τ 21 j)) _ _ _ (by omega) (by rw [hτ]; simp [mLay2, c_3]) hP hD hS (lv_sub hl [0, 1, 2, 3] rfl)
    · 
      refine lv_aload_n hx hb d_Md_place_188 rfl (lv_at hl 0 rfl) ?_
      refine va_get (D := D) (ci := 7) (v := .ref (a 13)) (C := R_Md) (T := F_Md) (N := 34) hx hb hts (fun w h => List.mem_cons_of_mem _ (i_Md w h)) hown hK.1 hP 0 (wMd_0 t a τ) rfl 13 (by decide) (hts (.fieldLink R_Md 37 "FlatBoxesModel" "steps" "[I") (List.mem_cons_of_mem _ (gIn k_679 (by decide +kernel)))) (fun _ h9 => h9) rfl d_Md_place_189 ?_
      refine lv_iload_n hx hb d_Md_place_192 rfl (lv_at hl 1 rfl) ?_
      refine g_iald hx hb hK.1 hP 10 0 (wMd_13 t a τ) rfl q (rfl) (by omega) (by decide) d_Md_place_193 ?_
      refine lv_goto (tgt := 203) hx hb d_Md_place_194 (by decide) ?_
      refine g_iast hx hb hK.1 hP hD hS 17 0 (wMd_21 t a τ) rfl j (rfl) (by omega) (by decide) (w' := wMd t a (gSt τ 21 j (τ 13 q))) (sMd_21 t a τ j (τ 13 q)) d_Md_place_203 (fun H locs hP hD hS => ?_)
      exact cut_204 j (gSt τ 21 j (τ 13 q)) _ _ _ (by omega) (by rw [hτ]; simp [mLay2, c_3]) hP hD hS (lv_sub hl [0, 1, 2, 3] rfl)
  have cut_110 : ∀ (j : Nat) (τ : Nat → Nat → Int32) (H : Heap) (locs : List Loc) (ls : Array Slot), j < 8 → mPlace σ q cc L = mLay τ q j → va_P D gCl (wMd t a τ) H → va_D A (wMd t a τ) → va_S A s.heap H locs → lv_has ls 4 [(0, .ref (a 0)), (1, .int (nI q)), (2, .int (nI cc)), (3, .int (nI j))] → gGov l p e s m below meth c D t A 0 [.ref (a 0), .int (nI q), .int (nI cc)] (wMd t a) (fun u => u = mPlace σ q cc L) H locs (F0 m 110 ls []) := by
    intro j τ H locs ls hj8 hτ hP hD hS hl
    refine lv_aload_n hx hb d_Md_place_110 rfl (lv_at hl 0 rfl) ?_
    refine va_get (D := D) (ci := 7) (v := .ref (a 15)) (C := R_Md) (T := F_Md) (N := 34) hx hb hts (fun w h => List.mem_cons_of_mem _ (i_Md w h)) hown hK.1 hP 0 (wMd_0 t a τ) rfl 15 (by decide) (hts (.fieldLink R_Md 44 "FlatBoxesModel" "layerOf" "[I") (List.mem_cons_of_mem _ (gIn k_681 (by decide +kernel)))) (fun _ h9 => h9) rfl d_Md_place_111 ?_
    refine lv_iload_n hx hb d_Md_place_114 rfl (lv_at hl 1 rfl) ?_
    refine lv_iload_n hx hb d_Md_place_115 rfl (lv_at hl 3 rfl) ?_
    refine g_iast hx hb hK.1 hP hD hS 12 0 (wMd_15 t a τ) rfl q (rfl) (by omega) (by decide) (w' := wMd t a (gSt τ 15 q (nI j))) (sMd_15 t a τ q (nI j)) d_Md_place_116 (fun H locs hP hD hS => ?_)
    refine lv_aload_n hx hb d_Md_place_117 rfl (lv_at hl 0 rfl) ?_
    refine va_get (D := D) (ci := 7) (v := .ref (a 16)) (C := R_Md) (T := F_Md) (N := 34) hx hb hts (fun w h => List.mem_cons_of_mem _ (i_Md w h)) hown hK.1 hP 0 (wMd_0 t a (gSt τ 15 q (nI j))) rfl 16 (by decide) (hts (.fieldLink R_Md 47 "FlatBoxesModel" "begins" "[I") (List.mem_cons_of_mem _ (gIn k_682 (by decide +kernel)))) (fun _ h9 => h9) rfl d_Md_place_118 ?_
    refine lv_iload_n hx hb d_Md_place_121 rfl (lv_at hl 1 rfl) ?_
    refine lv_aload_n hx hb d_Md_place_122 rfl (lv_at hl 0 rfl) ?_
    refine va_get (D := D) (ci := 7) (v := .ref (a 18)) (C := R_Md) (T := F_Md) (N := 34) hx hb hts (fun w h => List.mem_cons_of_mem _ (i_Md w h)) hown hK.1 hP 0 (wMd_0 t a (gSt τ 15 q (nI j))) rfl 18 (by decide) (hts (.fieldLink R_Md 50 "FlatBoxesModel" "used" "[I") (List.mem_cons_of_mem _ (gIn k_684 (by decide +kernel)))) (fun _ h9 => h9) rfl d_Md_place_123 ?_
    refine lv_iload_n hx hb d_Md_place_126 rfl (lv_at hl 3 rfl) ?_
    refine g_iald hx hb hK.1 hP 14 0 (wMd_18 t a (gSt τ 15 q (nI j))) rfl j (rfl) (by omega) (by decide) d_Md_place_127 ?_
    refine lv_aload_n hx hb d_Md_place_128 rfl (lv_at hl 0 rfl) ?_
    refine va_get (D := D) (ci := 7) (v := .int ((gSt τ 15 q (nI j)) 1 0)) (C := R_Md) (T := F_Md) (N := 34) hx hb hts (fun w h => List.mem_cons_of_mem _ (i_Md w h)) hown hK.1 hP 0 (wMd_0 t a (gSt τ 15 q (nI j))) rfl 1 (by decide) (hts (.fieldLink R_Md 89 "FlatBoxesModel" "gap" "I") (List.mem_cons_of_mem _ (gIn k_667 (by decide +kernel)))) (fun _ h9 => h9) rfl d_Md_place_129 ?_
    refine lv_iadd hx hb d_Md_place_132 ?_
    refine g_iast hx hb hK.1 hP hD hS 13 0 (wMd_16 t a (gSt τ 15 q (nI j))) rfl q (rfl) (by omega) (by decide) (w' := wMd t a (gSt (gSt τ 15 q (nI j)) 16 q (((gSt τ 15 q (nI j)) 18 j) + ((gSt τ 15 q (nI j)) 1 0)))) (sMd_16 t a (gSt τ 15 q (nI j)) q (((gSt τ 15 q (nI j)) 18 j) + ((gSt τ 15 q (nI j)) 1 0))) d_Md_place_133 (fun H locs hP hD hS => ?_)
    refine lv_aload_n hx hb d_Md_place_134 rfl (lv_at hl 0 rfl) ?_
    refine va_get (D := D) (ci := 7) (v := .ref (a 18)) (C := R_Md) (T := F_Md) (N := 34) hx hb hts (fun w h => List.mem_cons_of_mem _ (i_Md w h)) hown hK.1 hP 0 (wMd_0 t a (gSt (gSt τ 15 q (nI j)) 16 q (((gSt τ 15 q (nI j)) 18 j) + ((gSt τ 15 q (nI j)) 1 0)))) rfl 18 (by decide) (hts (.fieldLink R_Md 50 "FlatBoxesModel" "used" "[I") (List.mem_cons_of_mem _ (gIn k_684 (by decide +kernel)))) (fun _ h9 => h9) rfl d_Md_place_135 ?_
    refine lv_iload_n hx hb d_Md_place_138 rfl (lv_at hl 3 rfl) ?_
    refine lv_aload_n hx hb d_Md_place_139 rfl (lv_at hl 0 rfl) ?_
    refine va_get (D := D) (ci := 7) (v := .ref (a 16)) (C := R_Md) (T := F_Md) (N := 34) hx hb hts (fun w h => List.mem_cons_of_mem _ (i_Md w h)) hown hK.1 hP 0 (wMd_0 t a (gSt (gSt τ 15 q (nI j)) 16 q (((gSt τ 15 q (nI j)) 18 j) + ((gSt τ 15 q (nI j)) 1 0)))) rfl 16 (by decide) (hts (.fieldLink R_Md 47 "FlatBoxesModel" "begins" "[I") (List.mem_cons_of_mem _ (gIn k_682 (by decide +kernel)))) (fun _ h9 => h9) rfl d_Md_place_140 ?_
    refine lv_iload_n hx hb d_Md_place_143 rfl (lv_at hl 1 rfl) ?_
    refine g_iald hx hb hK.1 hP 13 0 (wMd_16 t a (gSt (gSt τ 15 q (nI j)) 16 q (((gSt τ 15 q (nI j)) 18 j) + ((gSt τ 15 q (nI j)) 1 0)))) rfl q (rfl) (by omega) (by decide) d_Md_place_144 ?_
    refine lv_aload_n hx hb d_Md_place_145 rfl (lv_at hl 0 rfl) ?_
    refine va_get (D := D) (ci := 7) (v := .ref (a 9)) (C := R_Md) (T := F_Md) (N := 34) hx hb hts (fun w h => List.mem_cons_of_mem _ (i_Md w h)) hown hK.1 hP 0 (wMd_0 t a (gSt (gSt τ 15 q (nI j)) 16 q (((gSt τ 15 q (nI j)) 18 j) + ((gSt τ 15 q (nI j)) 1 0)))) rfl 9 (by decide) (hts (.fieldLink R_Md 25 "FlatBoxesModel" "wides" "[I") (List.mem_cons_of_mem _ (gIn k_675 (by decide +kernel)))) (fun _ h9 => h9) rfl d_Md_place_146 ?_
    refine lv_iload_n hx hb d_Md_place_149 rfl (lv_at hl 1 rfl) ?_
    refine g_iald hx hb hK.1 hP 6 0 (wMd_9 t a (gSt (gSt τ 15 q (nI j)) 16 q (((gSt τ 15 q (nI j)) 18 j) + ((gSt τ 15 q (nI j)) 1 0)))) rfl q (rfl) (by omega) (by decide) d_Md_place_150 ?_
    refine lv_iadd hx hb d_Md_place_151 ?_
    refine g_iast hx hb hK.1 hP hD hS 14 0 (wMd_18 t a (gSt (gSt τ 15 q (nI j)) 16 q (((gSt τ 15 q (nI j)) 18 j) + ((gSt τ 15 q (nI j)) 1 0)))) rfl j (rfl) (by omega) (by decide) (w' := wMd t a (gSt (gSt (gSt τ 15 q (nI j)) 16 q (((gSt τ 15 q (nI j)) 18 j) + ((gSt τ 15 q (nI j)) 1 0))) 18 j (((gSt (gSt τ 15 q (nI j)) 16 q (((gSt τ 15 q (nI j)) 18 j) + ((gSt τ 15 q (nI j)) 1 0))) 16 q) + ((gSt (gSt τ 15 q (nI j)) 16 q (((gSt τ 15 q (nI j)) 18 j) + ((gSt τ 15 q (nI j)) 1 0))) 9 q)))) (sMd_18 t a (gSt (gSt τ 15 q (nI j)) 16 q (((gSt τ 15 q (nI j)) 18 j) + ((gSt τ 15 q (nI j)) 1 0))) j (((gSt (gSt τ 15 q (nI j)) 16 q (((gSt τ 15 q (nI j)) 18 j) + ((gSt τ 15 q (nI j)) 1 0))) 16 q) + ((gSt (gSt τ 15 q (nI j)) 16 q (((gSt τ 15 q (nI j)) 18 j) + ((gSt τ 15 q (nI j)) 1 0))) 9 q))) d_Md_place_152 (fun H locs hP hD hS => ?_)
    refine lv_aload_n hx hb d_Md_place_153 rfl (lv_at hl 0 rfl) ?_
    refine va_get (D := D) (ci := 7) (v := .ref (a 20)) (C := R_Md) (T := F_Md) (N := 34) hx hb hts (fun w h => List.mem_cons_of_mem _ (i_Md w h)) hown hK.1 hP 0 (wMd_0 t a (gSt (gSt (gSt τ 15 q (nI j)) 16 q (((gSt τ 15 q (nI j)) 18 j) + ((gSt τ 15 q (nI j)) 1 0))) 18 j (((gSt (gSt τ 15 q (nI j)) 16 q (((gSt τ 15 q (nI j)) 18 j) + ((gSt τ 15 q (nI j)) 1 0))) 16 q) + ((gSt (gSt τ 15 q (nI j)) 16 q (((gSt τ 15 q (nI j)) 18 j) + ((gSt τ 15 q (nI j)) 1 0))) 9 q)))) rfl 20 (by decide) (hts (.fieldLink R_Md 56 "FlatBoxesModel" "weights" "[I") (List.mem_cons_of_mem _ (gIn k_686 (by decide +kernel)))) (fun _ h9 => h9) rfl d_Md_place_154 ?_
    refine lv_iload_n hx hb d_Md_place_157 rfl (lv_at hl 3 rfl) ?_
    refine lv_dup2_11 hx hb d_Md_place_158 rfl rfl ?_
    refine g_iald hx hb hK.1 hP 16 0 (wMd_20 t a (gSt (gSt (gSt τ 15 q (nI j)) 16 q (((gSt τ 15 q (nI j)) 18 j) + ((gSt τ 15 q (nI j)) 1 0))) 18 j (((gSt (gSt τ 15 q (nI j)) 16 q (((gSt τ 15 q (nI j)) 18 j) + ((gSt τ 15 q (nI j)) 1 0))) 16 q) + ((gSt (gSt τ 15 q (nI j)) 16 q (((gSt τ 15 q (nI j)) 18 j) + ((gSt τ 15 q (nI j)) 1 0))) 9 q)))) rfl j (rfl) (by omega) (by decide) d_Md_place_159 ?_
    refine lv_aload_n hx hb d_Md_place_160 rfl (lv_at hl 0 rfl) ?_
    refine va_get (D := D) (ci := 7) (v := .ref (a 12)) (C := R_Md) (T := F_Md) (N := 34) hx hb hts (fun w h => List.mem_cons_of_mem _ (i_Md w h)) hown hK.1 hP 0 (wMd_0 t a (gSt (gSt (gSt τ 15 q (nI j)) 16 q (((gSt τ 15 q (nI j)) 18 j) + ((gSt τ 15 q (nI j)) 1 0))) 18 j (((gSt (gSt τ 15 q (nI j)) 16 q (((gSt τ 15 q (nI j)) 18 j) + ((gSt τ 15 q (nI j)) 1 0))) 16 q) + ((gSt (gSt τ 15 q (nI j)) 16 q (((gSt τ 15 q (nI j)) 18 j) + ((gSt τ 15 q (nI j)) 1 0))) 9 q)))) rfl 12 (by decide) (hts (.fieldLink R_Md 34 "FlatBoxesModel" "grams" "[I") (List.mem_cons_of_mem _ (gIn k_678 (by decide +kernel)))) (fun _ h9 => h9) rfl d_Md_place_161 ?_
    refine lv_iload_n hx hb d_Md_place_164 rfl (lv_at hl 1 rfl) ?_
    refine g_iald hx hb hK.1 hP 9 0 (wMd_12 t a (gSt (gSt (gSt τ 15 q (nI j)) 16 q (((gSt τ 15 q (nI j)) 18 j) + ((gSt τ 15 q (nI j)) 1 0))) 18 j (((gSt (gSt τ 15 q (nI j)) 16 q (((gSt τ 15 q (nI j)) 18 j) + ((gSt τ 15 q (nI j)) 1 0))) 16 q) + ((gSt (gSt τ 15 q (nI j)) 16 q (((gSt τ 15 q (nI j)) 18 j) + ((gSt τ 15 q (nI j)) 1 0))) 9 q)))) rfl q (rfl) (by omega) (by decide) d_Md_place_165 ?_
    refine lv_iadd hx hb d_Md_place_166 ?_
    refine g_iast hx hb hK.1 hP hD hS 16 0 (wMd_20 t a (gSt (gSt (gSt τ 15 q (nI j)) 16 q (((gSt τ 15 q (nI j)) 18 j) + ((gSt τ 15 q (nI j)) 1 0))) 18 j (((gSt (gSt τ 15 q (nI j)) 16 q (((gSt τ 15 q (nI j)) 18 j) + ((gSt τ 15 q (nI j)) 1 0))) 16 q) + ((gSt (gSt τ 15 q (nI j)) 16 q (((gSt τ 15 q (nI j)) 18 j) + ((gSt τ 15 q (nI j)) 1 0))) 9 q)))) rfl j (rfl) (by omega) (by decide) (w' := wMd t a (gSt (gSt (gSt (gSt τ 15 q (nI j)) 16 q (((gSt τ 15 q (nI j)) 18 j) + ((gSt τ 15 q (nI j)) 1 0))) 18 j (((gSt (gSt τ 15 q (nI j)) 16 q (((gSt τ 15 q (nI j)) 18 j) + ((gSt τ 15 q (nI j)) 1 0))) 16 q) + ((gSt (gSt τ 15 q (nI j)) 16 q (((gSt τ 15 q (nI j)) 18 j) + ((gSt τ 15 q (nI j)) 1 0))) 9 q))) 20 j (((gSt (gSt (gSt τ 15 q (nI j)) 16 q (((gSt τ 15 q (nI j)) 18 j) + ((gSt τ 15 q (nI j)) 1 0))) 18 j (((gSt (gSt τ 15 q (nI j)) 16 q (((gSt τ 15 q (nI j)) 18 j) + ((gSt τ 15 q (nI j)) 1 0))) 16 q) + ((gSt (gSt τ 15 q (nI j)) 16 q (((gSt τ 15 q (nI j)) 18 j) + ((gSt τ 15 q (nI j)) 1 0))) 9 q))) 20 j) + ((gSt (gSt (gSt τ 15 q (nI j)) 16 q (((gSt τ 15 q (nI j)) 18 j) + ((gSt τ 15 q (nI j)) 1 0))) 18 j (((gSt (gSt τ 15 q (nI j)) 16 q (((gSt τ 15 q (nI j)) 18 j) + ((gSt τ 15 q (nI j)) 1 0))) 16 q) + ((gSt (gSt τ 15 q (nI j)) 16 q (((gSt τ 15 q (nI j)) 18 j) + ((gSt τ 15 q (nI j)) 1 0))) 9 q))) 12 q)))) (sMd_20 t a (gSt (gSt (gSt τ 15 q (nI j)) 16 q (((gSt τ 15 q (nI j)) 18 j) + ((gSt τ 15 q (nI j)) 1 0))) 18 j (((gSt (gSt τ 15 q (nI j)) 16 q (((gSt τ 15 q (nI j)) 18 j) + ((gSt τ 15 q (nI j)) 1 0))) 16 q) + ((gSt (gSt τ 15 q (nI j)) 16 q (((gSt τ 15 q (nI j)) 18 j) + ((gSt τ 15 q (nI j)) 1 0))) 9 q))) j (((gSt (gSt (gSt τ 15 q (nI j)) 16 q (((gSt τ 15 q (nI j)) 18 j) + ((gSt τ 15 q (nI j)) 1 0))) 18 j (((gSt (gSt τ 15 q (nI j)) 16 q (((gSt τ 15 q (nI j)) 18 j) + ((gSt τ 15 q (nI j)) 1 0))) 16 q) + ((gSt (gSt τ 15 q (nI j)) 16 q (((gSt τ 15 q (nI j)) 18 j) + ((gSt τ 15 q (nI j)) 1 0))) 9 q))) 20 j) + ((gSt (gSt (gSt τ 15 q (nI j)) 16 q (((gSt τ 15 q (nI j)) 18 j) + ((gSt τ 15 q (nI j)) 1 0))) 18 j (((gSt (gSt τ 15 q (nI j)) 16 q (((gSt τ 15 q (nI j)) 18 j) + ((gSt τ 15 q (nI j)) 1 0))) 16 q) + ((gSt (gSt τ 15 q (nI j)) 16 q (((gSt τ 15 q (nI j)) 18 j) + ((gSt τ 15 q (nI j)) 1 0))) 9 q))) 12 q))) d_Md_place_167 (fun H locs hP hD hS => ?_)
    exact cut_168 j (gSt (gSt (gSt (gSt τ 15 q (nI j)) 16 q (((gSt τ 15 q (nI j)) 18 j) + ((gSt τ 15 q (nI j)) 1 0))) 18 j (((gSt (gSt τ 15 q (nI j)) 16 q (((gSt τ 15 q (nI j)) 18 j) + ((gSt τ 15 q (nI j)) 1 0))) 16 q) + ((gSt (gSt τ 15 q (nI j)) 16 q (((gSt τ 15 q (nI j)) 18 j) + ((gSt τ 15 q (nI j)) 1 0))) 9 q))) 20 j (((gSt (gSt (gSt τ 15 q (nI j)) 16 q (((gSt τ 15 q (nI j)) 18 j) + ((gSt τ 15 q (nI j)) 1 0))) 18 j (((gSt (gSt τ 15 q (nI j)) 16 q (((gSt τ 15 q (nI j)) 18 j) + ((gSt τ 15 q (nI j)) 1 0))) 16 q) + ((gSt (gSt τ 15 q (nI j)) 16 q (((gSt τ 15 q (nI j)) 18 j) + ((gSt τ 15 q (nI j)) 1 0))) 9 q))) 20 j) + ((gSt (gSt (gSt τ 15 q (nI j)) 16 q (((gSt τ 15 q (nI j)) 18 j) + ((gSt τ 15 q (nI j)) 1 0))) 18 j (((gSt (gSt τ 15 q (nI j)) 16 q (((gSt τ 15 q (nI j)) 18 j) + ((gSt τ 15 q (nI j)) 1 0))) 16 q) + ((gSt (gSt τ 15 q (nI j)) 16 q (((gSt τ 15 q (nI j)) 18 j) + ((gSt τ 15 q (nI j)) 1 0))) 9 q))) 12 q))) _ _ _ (by omega) (by rw [hτ]; rfl) hP hD hS (lv_sub hl [0, 1, 2, 3] rfl)
  have cut_43 : ∀ (j : Nat) (H : Heap) (locs : List Loc) (ls : Array Slot), j ≤ L → mRm σ q cc L = j → va_P D gCl (wMd t a σ) H → va_D A (wMd t a σ) → va_S A s.heap H locs → lv_has ls 4 [(0, .ref (a 0)), (1, .int (nI q)), (2, .int (nI cc)), (3, .int (nI j))] → gGov l p e s m below meth c D t A 0 [.ref (a 0), .int (nI q), .int (nI cc)] (wMd t a) (fun u => u = mPlace σ q cc L) H locs (F0 m 43 ls []) := by
    intro j H locs ls hjL hj hP hD hS hl
    refine lv_iload_n hx hb d_Md_place_43 rfl (lv_at hl 3 rfl) ?_
    refine lv_aload_n hx hb d_Md_place_44 rfl (lv_at hl 0 rfl) ?_
    refine va_get (D := D) (ci := 7) (v := .int (σ 17 0)) (C := R_Md) (T := F_Md) (N := 34) hx hb hts (fun w h => List.mem_cons_of_mem _ (i_Md w h)) hown hK.1 hP 0 (wMd_0 t a σ) rfl 17 (by decide) (hts (.fieldLink R_Md 116 "FlatBoxesModel" "layers" "I") (List.mem_cons_of_mem _ (gIn k_683 (by decide +kernel)))) (fun _ h9 => h9) rfl d_Md_place_45 ?_
    refine lv_topi (fun v_4 e_4 => ?_)
    obtain rfl : v_4 = nI L := e_4.trans hL
    refine lv_icmp_ne (tgt := 110) hx hb d_Md_place_48 (by decide) (fun c_5 => ?_) (fun c_5 => ?_)
    · 
      have h_5 : ¬ j = L := fun q9 => c_5 ((nI_eq (a := j) (b := L) (by omega) (by omega)).mpr q9)
      exact cut_110 j σ _ _ _ (by omega) (by unfold mPlace; rw [hj, if_neg h_5]) hP hD hS (lv_sub hl [0, 1, 2, 3] rfl)
    · 
      have h_5 : j = L := (nI_eq (a := j) (b := L) (by omega) (by omega)).mp c_5
      refine lv_aload_n hx hb d_Md_place_51 rfl (lv_at hl 0 rfl) ?_
      refine va_get (D := D) (ci := 7) (v := .ref (a 18)) (C := R_Md) (T := F_Md) (N := 34) hx hb hts (fun w h => List.mem_cons_of_mem _ (i_Md w h)) hown hK.1 hP 0 (wMd_0 t a σ) rfl 18 (by decide) (hts (.fieldLink R_Md 50 "FlatBoxesModel" "used" "[I") (List.mem_cons_of_mem _ (gIn k_684 (by decide +kernel)))) (fun _ h9 => h9) rfl d_Md_place_52 ?_
      refine lv_iload_n hx hb d_Md_place_55 rfl (lv_at hl 3 rfl) ?_
      refine lv_aload_n hx hb d_Md_place_56 rfl (lv_at hl 0 rfl) ?_
      refine va_get (D := D) (ci := 7) (v := .int (σ 1 0)) (C := R_Md) (T := F_Md) (N := 34) hx hb hts (fun w h => List.mem_cons_of_mem _ (i_Md w h)) hown hK.1 hP 0 (wMd_0 t a σ) rfl 1 (by decide) (hts (.fieldLink R_Md 89 "FlatBoxesModel" "gap" "I") (List.mem_cons_of_mem _ (gIn k_667 (by decide +kernel)))) (fun _ h9 => h9) rfl d_Md_place_57 ?_
      refine lv_ineg hx hb d_Md_place_60 ?_
      refine g_iast hx hb hK.1 hP hD hS 14 0 (wMd_18 t a σ) rfl j (rfl) (by omega) (by decide) (w' := wMd t a (gSt σ 18 j (-(σ 1 0)))) (sMd_18 t a σ j (-(σ 1 0))) d_Md_place_61 (fun H locs hP hD hS => ?_)
      refine lv_aload_n hx hb d_Md_place_62 rfl (lv_at hl 0 rfl) ?_
      refine va_get (D := D) (ci := 7) (v := .ref (a 19)) (C := R_Md) (T := F_Md) (N := 34) hx hb hts (fun w h => List.mem_cons_of_mem _ (i_Md w h)) hown hK.1 hP 0 (wMd_0 t a (gSt σ 18 j (-(σ 1 0)))) rfl 19 (by decide) (hts (.fieldLink R_Md 53 "FlatBoxesModel" "highs" "[I") (List.mem_cons_of_mem _ (gIn k_685 (by decide +kernel)))) (fun _ h9 => h9) rfl d_Md_place_63 ?_
      refine lv_iload_n hx hb d_Md_place_66 rfl (lv_at hl 3 rfl) ?_
      refine lv_aload_n hx hb d_Md_place_67 rfl (lv_at hl 0 rfl) ?_
      refine va_get (D := D) (ci := 7) (v := .ref (a 11)) (C := R_Md) (T := F_Md) (N := 34) hx hb hts (fun w h => List.mem_cons_of_mem _ (i_Md w h)) hown hK.1 hP 0 (wMd_0 t a (gSt σ 18 j (-(σ 1 0)))) rfl 11 (by decide) (hts (.fieldLink R_Md 31 "FlatBoxesModel" "thicks" "[I") (List.mem_cons_of_mem _ (gIn k_677 (by decide +kernel)))) (fun _ h9 => h9) rfl d_Md_place_68 ?_
      refine lv_iload_n hx hb d_Md_place_71 rfl (lv_at hl 1 rfl) ?_
      refine g_iald hx hb hK.1 hP 8 0 (wMd_11 t a (gSt σ 18 j (-(σ 1 0)))) rfl q (rfl) (by omega) (by decide) d_Md_place_72 ?_
      refine g_iast hx hb hK.1 hP hD hS 15 0 (wMd_19 t a (gSt σ 18 j (-(σ 1 0)))) rfl j (rfl) (by omega) (by decide) (w' := wMd t a (gSt (gSt σ 18 j (-(σ 1 0))) 19 j ((gSt σ 18 j (-(σ 1 0))) 11 q))) (sMd_19 t a (gSt σ 18 j (-(σ 1 0))) j ((gSt σ 18 j (-(σ 1 0))) 11 q)) d_Md_place_73 (fun H locs hP hD hS => ?_)
      refine lv_aload_n hx hb d_Md_place_74 rfl (lv_at hl 0 rfl) ?_
      refine va_get (D := D) (ci := 7) (v := .ref (a 20)) (C := R_Md) (T := F_Md) (N := 34) hx hb hts (fun w h => List.mem_cons_of_mem _ (i_Md w h)) hown hK.1 hP 0 (wMd_0 t a (gSt (gSt σ 18 j (-(σ 1 0))) 19 j ((gSt σ 18 j (-(σ 1 0))) 11 q))) rfl 20 (by decide) (hts (.fieldLink R_Md 56 "FlatBoxesModel" "weights" "[I") (List.mem_cons_of_mem _ (gIn k_686 (by decide +kernel)))) (fun _ h9 => h9) rfl d_Md_place_75 ?_
      refine lv_iload_n hx hb d_Md_place_78 rfl (lv_at hl 3 rfl) ?_
      refine lv_iconst (v := 0) hx hb d_Md_place_79 (by decide) ?_
      refine g_iast hx hb hK.1 hP hD hS 16 0 (wMd_20 t a (gSt (gSt σ 18 j (-(σ 1 0))) 19 j ((gSt σ 18 j (-(σ 1 0))) 11 q))) rfl j (rfl) (by omega) (by decide) (w' := wMd t a (gSt (gSt (gSt σ 18 j (-(σ 1 0))) 19 j ((gSt σ 18 j (-(σ 1 0))) 11 q)) 20 j 0)) (sMd_20 t a (gSt (gSt σ 18 j (-(σ 1 0))) 19 j ((gSt σ 18 j (-(σ 1 0))) 11 q)) j 0) d_Md_place_80 (fun H locs hP hD hS => ?_)
      refine lv_aload_n hx hb d_Md_place_81 rfl (lv_at hl 0 rfl) ?_
      refine va_get (D := D) (ci := 7) (v := .ref (a 21)) (C := R_Md) (T := F_Md) (N := 34) hx hb hts (fun w h => List.mem_cons_of_mem _ (i_Md w h)) hown hK.1 hP 0 (wMd_0 t a (gSt (gSt (gSt σ 18 j (-(σ 1 0))) 19 j ((gSt σ 18 j (-(σ 1 0))) 11 q)) 20 j 0)) rfl 21 (by decide) (hts (.fieldLink R_Md 59 "FlatBoxesModel" "firsts" "[I") (List.mem_cons_of_mem _ (gIn k_687 (by decide +kernel)))) (fun _ h9 => h9) rfl d_Md_place_82 ?_
      refine lv_iload_n hx hb d_Md_place_85 rfl (lv_at hl 3 rfl) ?_
      refine lv_aload_n hx hb d_Md_place_86 rfl (lv_at hl 0 rfl) ?_
      refine va_get (D := D) (ci := 7) (v := .ref (a 13)) (C := R_Md) (T := F_Md) (N := 34) hx hb hts (fun w h => List.mem_cons_of_mem _ (i_Md w h)) hown hK.1 hP 0 (wMd_0 t a (gSt (gSt (gSt σ 18 j (-(σ 1 0))) 19 j ((gSt σ 18 j (-(σ 1 0))) 11 q)) 20 j 0)) rfl 13 (by decide) (hts (.fieldLink R_Md 37 "FlatBoxesModel" "steps" "[I") (List.mem_cons_of_mem _ (gIn k_679 (by decide +kernel)))) (fun _ h9 => h9) rfl d_Md_place_87 ?_
      refine lv_iload_n hx hb d_Md_place_90 rfl (lv_at hl 1 rfl) ?_
      refine g_iald hx hb hK.1 hP 10 0 (wMd_13 t a (gSt (gSt (gSt σ 18 j (-(σ 1 0))) 19 j ((gSt σ 18 j (-(σ 1 0))) 11 q)) 20 j 0)) rfl q (rfl) (by omega) (by decide) d_Md_place_91 ?_
      refine g_iast hx hb hK.1 hP hD hS 17 0 (wMd_21 t a (gSt (gSt (gSt σ 18 j (-(σ 1 0))) 19 j ((gSt σ 18 j (-(σ 1 0))) 11 q)) 20 j 0)) rfl j (rfl) (by omega) (by decide) (w' := wMd t a (gSt (gSt (gSt (gSt σ 18 j (-(σ 1 0))) 19 j ((gSt σ 18 j (-(σ 1 0))) 11 q)) 20 j 0) 21 j ((gSt (gSt (gSt σ 18 j (-(σ 1 0))) 19 j ((gSt σ 18 j (-(σ 1 0))) 11 q)) 20 j 0) 13 q))) (sMd_21 t a (gSt (gSt (gSt σ 18 j (-(σ 1 0))) 19 j ((gSt σ 18 j (-(σ 1 0))) 11 q)) 20 j 0) j ((gSt (gSt (gSt σ 18 j (-(σ 1 0))) 19 j ((gSt σ 18 j (-(σ 1 0))) 11 q)) 20 j 0) 13 q)) d_Md_place_92 (fun H locs hP hD hS => ?_)
      refine lv_aload_n hx hb d_Md_place_93 rfl (lv_at hl 0 rfl) ?_
      refine va_get (D := D) (ci := 7) (v := .ref (a 22)) (C := R_Md) (T := F_Md) (N := 34) hx hb hts (fun w h => List.mem_cons_of_mem _ (i_Md w h)) hown hK.1 hP 0 (wMd_0 t a (gSt (gSt (gSt (gSt σ 18 j (-(σ 1 0))) 19 j ((gSt σ 18 j (-(σ 1 0))) 11 q)) 20 j 0) 21 j ((gSt (gSt (gSt σ 18 j (-(σ 1 0))) 19 j ((gSt σ 18 j (-(σ 1 0))) 11 q)) 20 j 0) 13 q))) rfl 22 (by decide) (hts (.fieldLink R_Md 62 "FlatBoxesModel" "breaks" "[Z") (List.mem_cons_of_mem _ (gIn k_688 (by decide +kernel)))) (fun _ h9 => h9) rfl d_Md_place_94 ?_
      refine lv_iload_n hx hb d_Md_place_97 rfl (lv_at hl 3 rfl) ?_
      refine lv_iconst (v := 0) hx hb d_Md_place_98 (by decide) ?_
      refine g_zast hx hb hK.1 hP hD hS 18 1 (wMd_22 t a (gSt (gSt (gSt (gSt σ 18 j (-(σ 1 0))) 19 j ((gSt σ 18 j (-(σ 1 0))) 11 q)) 20 j 0) 21 j ((gSt (gSt (gSt σ 18 j (-(σ 1 0))) 19 j ((gSt σ 18 j (-(σ 1 0))) 11 q)) 20 j 0) 13 q))) rfl (Or.inl rfl) j (rfl) (by omega) (by decide) (w' := wMd t a (gSt (gSt (gSt (gSt (gSt σ 18 j (-(σ 1 0))) 19 j ((gSt σ 18 j (-(σ 1 0))) 11 q)) 20 j 0) 21 j ((gSt (gSt (gSt σ 18 j (-(σ 1 0))) 19 j ((gSt σ 18 j (-(σ 1 0))) 11 q)) 20 j 0) 13 q)) 22 j 0)) (sMd_22 t a (gSt (gSt (gSt (gSt σ 18 j (-(σ 1 0))) 19 j ((gSt σ 18 j (-(σ 1 0))) 11 q)) 20 j 0) 21 j ((gSt (gSt (gSt σ 18 j (-(σ 1 0))) 19 j ((gSt σ 18 j (-(σ 1 0))) 11 q)) 20 j 0) 13 q)) j 0) d_Md_place_99 (fun H locs hP hD hS => ?_)
      refine lv_aload_n hx hb d_Md_place_100 rfl (lv_at hl 0 rfl) ?_
      refine lv_dup hx hb d_Md_place_101 rfl ?_
      refine va_get (D := D) (ci := 7) (v := .int ((gSt (gSt (gSt (gSt (gSt σ 18 j (-(σ 1 0))) 19 j ((gSt σ 18 j (-(σ 1 0))) 11 q)) 20 j 0) 21 j ((gSt (gSt (gSt σ 18 j (-(σ 1 0))) 19 j ((gSt σ 18 j (-(σ 1 0))) 11 q)) 20 j 0) 13 q)) 22 j 0) 17 0)) (C := R_Md) (T := F_Md) (N := 34) hx hb hts (fun w h => List.mem_cons_of_mem _ (i_Md w h)) hown hK.1 hP 0 (wMd_0 t a (gSt (gSt (gSt (gSt (gSt σ 18 j (-(σ 1 0))) 19 j ((gSt σ 18 j (-(σ 1 0))) 11 q)) 20 j 0) 21 j ((gSt (gSt (gSt σ 18 j (-(σ 1 0))) 19 j ((gSt σ 18 j (-(σ 1 0))) 11 q)) 20 j 0) 13 q)) 22 j 0)) rfl 17 (by decide) (hts (.fieldLink R_Md 116 "FlatBoxesModel" "layers" "I") (List.mem_cons_of_mem _ (gIn k_683 (by decide +kernel)))) (fun _ h9 => h9) rfl d_Md_place_102 ?_
      refine lv_iconst (v := 1) hx hb d_Md_place_105 (by decide) ?_
      refine lv_iadd hx hb d_Md_place_106 ?_
      refine va_put (D := D) (ci := 7) (v := .int (((gSt (gSt (gSt (gSt (gSt σ 18 j (-(σ 1 0))) 19 j ((gSt σ 18 j (-(σ 1 0))) 11 q)) 20 j 0) 21 j ((gSt (gSt (gSt σ 18 j (-(σ 1 0))) 19 j ((gSt σ 18 j (-(σ 1 0))) 11 q)) 20 j 0) 13 q)) 22 j 0) 17 0) + 1)) (ty := .int) (C := R_Md) (T := F_Md) (N := 34) hx hb hts (fun w h => List.mem_cons_of_mem _ (i_Md w h)) t_Md t_Md_ok n_Md hown hK.1 hP hD hS 0 (wMd_0 t a (gSt (gSt (gSt (gSt (gSt σ 18 j (-(σ 1 0))) 19 j ((gSt σ 18 j (-(σ 1 0))) 11 q)) 20 j 0) 21 j ((gSt (gSt (gSt σ 18 j (-(σ 1 0))) 19 j ((gSt σ 18 j (-(σ 1 0))) 11 q)) 20 j 0) 13 q)) 22 j 0)) rfl 17 (by decide) (hts (.fieldLink R_Md 116 "FlatBoxesModel" "layers" "I") (List.mem_cons_of_mem _ (gIn k_683 (by decide +kernel)))) (fun _ h9 => h9) rfl (by decide +kernel) rfl rfl (Nat.le_of_ble_eq_true rfl) d_Md_place_107 (fun H locs hP hD hS => ?_)
      have hP : va_P D gCl (wMd t a (gSt (gSt (gSt (gSt (gSt (gSt σ 18 j (-(σ 1 0))) 19 j ((gSt σ 18 j (-(σ 1 0))) 11 q)) 20 j 0) 21 j ((gSt (gSt (gSt σ 18 j (-(σ 1 0))) 19 j ((gSt σ 18 j (-(σ 1 0))) 11 q)) 20 j 0) 13 q)) 22 j 0) 17 0 (((gSt (gSt (gSt (gSt (gSt σ 18 j (-(σ 1 0))) 19 j ((gSt σ 18 j (-(σ 1 0))) 11 q)) 20 j 0) 21 j ((gSt (gSt (gSt σ 18 j (-(σ 1 0))) 19 j ((gSt σ 18 j (-(σ 1 0))) 11 q)) 20 j 0) 13 q)) 22 j 0) 17 0) + 1))) H := hP
      have hD : va_D A (wMd t a (gSt (gSt (gSt (gSt (gSt (gSt σ 18 j (-(σ 1 0))) 19 j ((gSt σ 18 j (-(σ 1 0))) 11 q)) 20 j 0) 21 j ((gSt (gSt (gSt σ 18 j (-(σ 1 0))) 19 j ((gSt σ 18 j (-(σ 1 0))) 11 q)) 20 j 0) 13 q)) 22 j 0) 17 0 (((gSt (gSt (gSt (gSt (gSt σ 18 j (-(σ 1 0))) 19 j ((gSt σ 18 j (-(σ 1 0))) 11 q)) 20 j 0) 21 j ((gSt (gSt (gSt σ 18 j (-(σ 1 0))) 19 j ((gSt σ 18 j (-(σ 1 0))) 11 q)) 20 j 0) 13 q)) 22 j 0) 17 0) + 1))) := hD
      exact cut_110 j (gSt (gSt (gSt (gSt (gSt (gSt σ 18 j (-(σ 1 0))) 19 j ((gSt σ 18 j (-(σ 1 0))) 11 q)) 20 j 0) 21 j ((gSt (gSt (gSt σ 18 j (-(σ 1 0))) 19 j ((gSt σ 18 j (-(σ 1 0))) 11 q)) 20 j 0) 13 q)) 22 j 0) 17 0 (((gSt (gSt (gSt (gSt (gSt σ 18 j (-(σ 1 0))) 19 j ((gSt σ 18 j (-(σ 1 0))) 11 q)) 20 j 0) 21 j ((gSt (gSt (gSt σ 18 j (-(σ 1 0))) 19 j ((gSt σ 18 j (-(σ 1 0))) 11 q)) 20 j 0) 13 q)) 22 j 0) 17 0) + 1)) _ _ _ (by omega) (by unfold mPlace; rw [hj, if_pos h_5]; rfl) hP hD hS (lv_sub hl [0, 1, 2, 3] rfl)
  have cut_2 : ∀ (n : Nat) (d : Nat) (j : Nat) (H : Heap) (locs : List Loc) (ls : Array Slot), j + d = L → d + 1 ≤ n → mRm σ q cc L = mRoom (σ 18) (σ 1 0) (σ 9 q) (σ 3 cc) d j → va_P D gCl (wMd t a σ) H → va_D A (wMd t a σ) → va_S A s.heap H locs → lv_has ls 4 [(0, .ref (a 0)), (1, .int (nI q)), (2, .int (nI cc)), (3, .int (nI j))] → gGov l p e s m below meth c D t A 0 [.ref (a 0), .int (nI q), .int (nI cc)] (wMd t a) (fun u => u = mPlace σ q cc L) H locs (F0 m 2 ls []) := by
    intro n
    induction n with
    | zero =>
      intro d j H locs ls hd hf hs hP hD hS hl
      exact absurd hf (by omega)
    | succ n ih =>
      intro d j H locs ls hd hf hs hP hD hS hl
      refine lv_iload_n hx hb d_Md_place_2 rfl (lv_at hl 3 rfl) ?_
      refine lv_aload_n hx hb d_Md_place_3 rfl (lv_at hl 0 rfl) ?_
      refine va_get (D := D) (ci := 7) (v := .int (σ 17 0)) (C := R_Md) (T := F_Md) (N := 34) hx hb hts (fun w h => List.mem_cons_of_mem _ (i_Md w h)) hown hK.1 hP 0 (wMd_0 t a σ) rfl 17 (by decide) (hts (.fieldLink R_Md 116 "FlatBoxesModel" "layers" "I") (List.mem_cons_of_mem _ (gIn k_683 (by decide +kernel)))) (fun _ h9 => h9) rfl d_Md_place_4 ?_
      refine lv_topi (fun v_6 e_6 => ?_)
      obtain rfl : v_6 = nI L := e_6.trans hL
      refine lv_icmp_ge (tgt := 43) hx hb d_Md_place_7 (by decide) (fun c_7 => ?_) (fun c_7 => ?_)
      · 
        have h_7 : L ≤ j := (nI_leI (a := L) (b := j) (by omega) (by omega)).mp c_7
        exact cut_43 j _ _ _ (by omega) (by rw [hs]; obtain rfl : d = 0 := (by omega); rfl) hP hD hS (lv_sub hl [0, 1, 2, 3] rfl)
      · 
        have h_7 : ¬ L ≤ j := fun q9 => c_7 ((nI_leI (a := L) (b := j) (by omega) (by omega)).mpr q9)
        obtain ⟨d, rfl⟩ : ∃ d9, d = d9 + 1 := ⟨d - 1, by omega⟩
        refine lv_aload_n hx hb d_Md_place_10 rfl (lv_at hl 0 rfl) ?_
        refine va_get (D := D) (ci := 7) (v := .ref (a 18)) (C := R_Md) (T := F_Md) (N := 34) hx hb hts (fun w h => List.mem_cons_of_mem _ (i_Md w h)) hown hK.1 hP 0 (wMd_0 t a σ) rfl 18 (by decide) (hts (.fieldLink R_Md 50 "FlatBoxesModel" "used" "[I") (List.mem_cons_of_mem _ (gIn k_684 (by decide +kernel)))) (fun _ h9 => h9) rfl d_Md_place_11 ?_
        refine lv_iload_n hx hb d_Md_place_14 rfl (lv_at hl 3 rfl) ?_
        refine g_iald hx hb hK.1 hP 14 0 (wMd_18 t a σ) rfl j (rfl) (by omega) (by decide) d_Md_place_15 ?_
        refine lv_aload_n hx hb d_Md_place_16 rfl (lv_at hl 0 rfl) ?_
        refine va_get (D := D) (ci := 7) (v := .int (σ 1 0)) (C := R_Md) (T := F_Md) (N := 34) hx hb hts (fun w h => List.mem_cons_of_mem _ (i_Md w h)) hown hK.1 hP 0 (wMd_0 t a σ) rfl 1 (by decide) (hts (.fieldLink R_Md 89 "FlatBoxesModel" "gap" "I") (List.mem_cons_of_mem _ (gIn k_667 (by decide +kernel)))) (fun _ h9 => h9) rfl d_Md_place_17 ?_
        refine lv_iadd hx hb d_Md_place_20 ?_
        refine lv_aload_n hx hb d_Md_place_21 rfl (lv_at hl 0 rfl) ?_
        refine va_get (D := D) (ci := 7) (v := .ref (a 9)) (C := R_Md) (T := F_Md) (N := 34) hx hb hts (fun w h => List.mem_cons_of_mem _ (i_Md w h)) hown hK.1 hP 0 (wMd_0 t a σ) rfl 9 (by decide) (hts (.fieldLink R_Md 25 "FlatBoxesModel" "wides" "[I") (List.mem_cons_of_mem _ (gIn k_675 (by decide +kernel)))) (fun _ h9 => h9) rfl d_Md_place_22 ?_
        refine lv_iload_n hx hb d_Md_place_25 rfl (lv_at hl 1 rfl) ?_
        refine g_iald hx hb hK.1 hP 6 0 (wMd_9 t a σ) rfl q (rfl) (by omega) (by decide) d_Md_place_26 ?_
        refine lv_iadd hx hb d_Md_place_27 ?_
        refine lv_aload_n hx hb d_Md_place_28 rfl (lv_at hl 0 rfl) ?_
        refine va_get (D := D) (ci := 7) (v := .ref (a 3)) (C := R_Md) (T := F_Md) (N := 34) hx hb hts (fun w h => List.mem_cons_of_mem _ (i_Md w h)) hown hK.1 hP 0 (wMd_0 t a σ) rfl 3 (by decide) (hts (.fieldLink R_Md 7 "FlatBoxesModel" "widths" "[I") (List.mem_cons_of_mem _ (gIn k_669 (by decide +kernel)))) (fun _ h9 => h9) rfl d_Md_place_29 ?_
        refine lv_iload_n hx hb d_Md_place_32 rfl (lv_at hl 2 rfl) ?_
        refine g_iald hx hb hK.1 hP 1 0 (wMd_3 t a σ) rfl cc (rfl) (by omega) (by decide) d_Md_place_33 ?_
        refine lv_icmp_le (tgt := 43) hx hb d_Md_place_34 (by decide) (fun c_8 => ?_) (fun c_8 => ?_)
        · 
          exact cut_43 j _ _ _ (by omega) (by rw [hs]; simp [mRoom, c_7, h_7, c_8]) hP hD hS (lv_sub hl [0, 1, 2, 3] rfl)
        · 
          refine lv_iinc (v := nI (j + 1)) (lv' := [(3, .int (nI (j + 1))), (0, .ref (a 0)), (1, .int (nI q)), (2, .int (nI cc))]) hx hb d_Md_place_37 hl (k := 3) rfl (nI_1 j) (by decide) rfl (fun ls hl => ?_)
          refine lv_goto (tgt := 2) hx hb d_Md_place_40 (by decide) ?_
          exact ih d (j + 1) _ _ _ (by omega) (by omega) (by rw [hs]; simp [mRoom, c_7, h_7, c_8]) hP hD hS (lv_sub hl [1, 2, 3, 0] rfl)
  refine lv_iconst (v := 0) hx hb d_Md_place_0 (by decide) ?_
  refine lv_istore_n (lv' := [(3, .int 0), (0, .ref (a 0)), (1, .int (nI q)), (2, .int (nI cc))]) hx hb d_Md_place_1 rfl hl (by decide) rfl (fun ls hl => ?_)
  exact cut_2 (L + 1) L 0 _ _ _ (by omega) (by omega) (rfl) hP hD hS (lv_sub hl [1, 2, 3, 0] rfl)
end
section
theorem gg_Md_131 (w0 : Cond) : GoodIn (w0 :: gBig) (wsV R_Md 131 R_Md y_Md_highOf (.code y_Md_highOf b_Md_highOf 3 (some .int) :: gBig)) := gGoodV (gIn k_813 (by decide +kernel)) (gIn k_815 (by decide +kernel)) (gInP (List.mem_of_getElem? (i := 20) (by decide +kernel)) (by decide +kernel)) (gIn k_9 (by decide +kernel)) (gIn k_816 (by decide +kernel))
theorem gg_Md_119 (w0 : Cond) : GoodIn (w0 :: gBig) (wsV R_Md 119 R_Md y_Md_byThickness (.code y_Md_byThickness b_Md_byThickness 5 (some .int) :: gBig)) := gGoodV (gIn k_801 (by decide +kernel)) (gIn k_803 (by decide +kernel)) (gInP (List.mem_of_getElem? (i := 17) (by decide +kernel)) (by decide +kernel)) (gIn k_9 (by decide +kernel)) (gIn k_804 (by decide +kernel))
theorem gg_Md_127 (w0 : Cond) : GoodIn (w0 :: gBig) (wsV R_Md 127 R_Md y_Md_place (.code y_Md_place b_Md_place 4 none :: gBig)) := gGoodV (gIn k_809 (by decide +kernel)) (gIn k_811 (by decide +kernel)) (gInP (List.mem_of_getElem? (i := 19) (by decide +kernel)) (by decide +kernel)) (gIn k_9 (by decide +kernel)) (gIn k_812 (by decide +kernel))
set_option maxHeartbeats 4000000 in
set_option maxRecDepth 100000 in
theorem c_Md_pack (l : Launch) (D : va_G) (t : Nat → ClassId) (a : Nat → Nat) (σ : Nat → Nat → Int32) (set : Int32) (cc np : Nat) (ord : Nat → Nat) (hN : σ 8 0 = nI np) (hN8 : np ≤ 8) (hc : cc < 4) (hord : ∀ k, k < np → ord k < np ∧ mBT (σ 11) np (nI k) np 0 = nI (ord k)) : gMi l D t y_Md_pack b_Md_pack 7 (some .boolean) 1 [.ref (a 0), .int set, .int (nI cc)] (wMd t a σ) (wMd t a) (fun r u => r = mPackR (mPk σ ord set cc np) cc ∧ u = (mPk σ ord set cc np).1) := by
  intro A
  refine Met.ofW (cc := b_Md_pack) (maxL := 7) (ret := (some .boolean)) (by decide) rfl ?_
  intro p e s m args below meth c s₁ B hml hv
  obtain ⟨rfl, hK, hP, hD⟩ := hv
  have hx := B.exec
  have hb := B.bytes
  have hr := B.returns
  have hts := atoms_spec (ws := .code y_Md_pack b_Md_pack 7 (some .boolean) :: gBig) B.pre
  have hown : s.vm.findClass R_Md = some m.cls := findClass_of_methodNamed B.named
  have hlocks := B.notSynchronized
  have hS : va_S A s.heap s.heap [] := va_S.rf
  have hl := lv_entry ([.ref (a 0), .int set, .int (nI cc)]) (n := 7) (Nat.le_of_ble_eq_true rfl)
  rw [lg_entry_eq]
  generalize (lg_sl ([.ref (a 0), .int set, .int (nI cc)]) ++ List.replicate (7 - (lg_sl ([.ref (a 0), .int set, .int (nI cc)])).length) Slot.unset).toArray = ls at hl ⊢
  have hl : lv_has ls 7 [(0, .ref (a 0)), (1, .int set), (2, .int (nI cc))] := hl
  show gGo l p e s m below meth c D t A 1 [.ref (a 0), .int set, .int (nI cc)] (wMd t a) (fun r u => r = mPackR (mPk σ ord set cc np) cc ∧ u = (mPk σ ord set cc np).1) s.heap [] (F0 m 0 ls [])
  have cut_113 : ∀ (n : Nat) (r : Nat) (bk : Int32) (τ : Nat → Nat → Int32) (f : Int32) (w : Int32) (L : Nat) (H : Heap) (locs : List Loc) (ls : Array Slot), (r ≤ L) → (L + 1 ≤ r + n) → (bk = mCnt (τ 22) r) → (mPk σ ord set cc np = (τ, f, w)) → (τ 17 0 = nI L) → (L ≤ 8) → va_P D gCl (wMd t a τ) H → va_D A (wMd t a τ) → va_S A s.heap H locs → lv_has ls 7 [(0, .ref (a 0)), (1, .int set), (2, .int (nI cc)), (3, .int f), (4, .int w), (5, .int bk), (6, .int (nI r))] → gGo l p e s m below meth c D t A 1 [.ref (a 0), .int set, .int (nI cc)] (wMd t a) (fun r u => r = mPackR (mPk σ ord set cc np) cc ∧ u = (mPk σ ord set cc np).1) H locs (F0 m 113 ls []) := by
    intro n
    induction n with
    | zero =>
      intro r bk τ f w L H locs ls hr1 hf hb1 hs hL1 hL8 hP hD hS hl
      exact absurd hf (by omega)
    | succ n ih =>
      intro r bk τ f w L H locs ls hr1 hf hb1 hs hL1 hL8 hP hD hS hl
      refine lv_iload hx hb d_Md_pack_113 (lv_at hl 6 rfl) ?_
      refine lv_aload_n hx hb d_Md_pack_115 rfl (lv_at hl 0 rfl) ?_
      refine va_get (D := D) (ci := 7) (v := .int (τ 17 0)) (C := R_Md) (T := F_Md) (N := 34) hx hb hts (fun w h => List.mem_cons_of_mem _ (i_Md w h)) hown hK.1 hP 0 (wMd_0 t a τ) rfl 17 (by decide) (hts (.fieldLink R_Md 116 "FlatBoxesModel" "layers" "I") (List.mem_cons_of_mem _ (gIn k_683 (by decide +kernel)))) (fun _ h9 => h9) rfl d_Md_pack_116 ?_
      refine lv_topi (fun v_1 e_1 => ?_)
      obtain rfl : v_1 = nI L := e_1.trans hL1
      refine lv_icmp_ge (tgt := 148) hx hb d_Md_pack_119 (by decide) (fun c_2 => ?_) (fun c_2 => ?_)
      · 
        have h_2 : L ≤ r := (nI_leI (a := L) (b := r) (by omega) (by omega)).mp c_2
        refine lv_iload_n hx hb d_Md_pack_148 rfl (lv_at hl 3 rfl) ?_
        refine lv_if_eq (tgt := 186) hx hb d_Md_pack_149 (by decide) (fun c_3 => ?_) (fun c_3 => ?_)
        · 
          refine lv_iconst (v := 0) hx hb d_Md_pack_186 (by decide) ?_
          exact W.zret (v := 0) (ty := .boolean) hx hb hr (rfl) (fun U hU hW => ⟨⟨0, τ, rfl, by refine ⟨?_, by rw [hs]⟩; rw [hs]; unfold mPackR; dsimp only; rw [mLn_eq hL1 hL8]; obtain rfl : r = L := (by omega); subst hb1; simp [c_2, h_2, c_3], by rw [hU]; exact hP, hD⟩, hS.F hU⟩) hS.2.2 d_Md_pack_187
        · 
          refine lv_aload_n hx hb d_Md_pack_152 rfl (lv_at hl 0 rfl) ?_
          refine g_vi (k := 0) (As := []) (rest := []) (own := R_Md) (C := R_Md) (index := 131) ⟨hx, hb, hml, hown, hts⟩ (c_Md_highOf l D t a τ L hL1 hL8) (gg_Md_131 _) (by decide +kernel) ⟨Nat.le_of_ble_eq_true rfl, Nat.le_of_ble_eq_true rfl⟩ rfl (va_recv hK.1 hP (ci := 7) (q0 := 0) rfl (wMd_0 t a τ)) hK hP hD hS hl.1 rfl (Nat.le_of_ble_eq_true rfl) ⟨Nat.zero_le _, Nat.zero_le _⟩ d_Md_pack_153 (fun r_4 u_4 H locs q_4 hP hD hS => ?_)
          obtain ⟨rfl, hu_4⟩ := q_4
          rw [hu_4] at hP hD
          refine lv_aload_n hx hb d_Md_pack_156 rfl (lv_at hl 0 rfl) ?_
          refine va_get (D := D) (ci := 7) (v := .ref (a 5)) (C := R_Md) (T := F_Md) (N := 34) hx hb hts (fun w h => List.mem_cons_of_mem _ (i_Md w h)) hown hK.1 hP 0 (wMd_0 t a τ) rfl 5 (by decide) (hts (.fieldLink R_Md 16 "FlatBoxesModel" "heights" "[I") (List.mem_cons_of_mem _ (gIn k_671 (by decide +kernel)))) (fun _ h9 => h9) rfl d_Md_pack_157 ?_
          refine lv_iload_n hx hb d_Md_pack_160 rfl (lv_at hl 2 rfl) ?_
          refine g_iald hx hb hK.1 hP 3 0 (wMd_5 t a τ) rfl cc (rfl) (by omega) (by decide) d_Md_pack_161 ?_
          refine lv_icmp_gt (tgt := 186) hx hb d_Md_pack_162 (by decide) (fun c_5 => ?_) (fun c_5 => ?_)
          · 
            refine lv_iconst (v := 0) hx hb d_Md_pack_186 (by decide) ?_
            exact W.zret (v := 0) (ty := .boolean) hx hb hr (rfl) (fun U hU hW => ⟨⟨0, τ, rfl, by refine ⟨?_, by rw [hs]⟩; rw [hs]; unfold mPackR; dsimp only; rw [mLn_eq hL1 hL8]; obtain rfl : r = L := (by omega); subst hb1; simp [c_2, h_2, c_3, c_5], by rw [hU]; exact hP, hD⟩, hS.F hU⟩) hS.2.2 d_Md_pack_187
          · 
            refine lv_iload hx hb d_Md_pack_165 (lv_at hl 4 rfl) ?_
            refine lv_aload_n hx hb d_Md_pack_167 rfl (lv_at hl 0 rfl) ?_
            refine va_get (D := D) (ci := 7) (v := .ref (a 7)) (C := R_Md) (T := F_Md) (N := 34) hx hb hts (fun w h => List.mem_cons_of_mem _ (i_Md w h)) hown hK.1 hP 0 (wMd_0 t a τ) rfl 7 (by decide) (hts (.fieldLink R_Md 22 "FlatBoxesModel" "bears" "[I") (List.mem_cons_of_mem _ (gIn k_673 (by decide +kernel)))) (fun _ h9 => h9) rfl d_Md_pack_168 ?_
            refine lv_iload_n hx hb d_Md_pack_171 rfl (lv_at hl 2 rfl) ?_
            refine g_iald hx hb hK.1 hP 5 0 (wMd_7 t a τ) rfl cc (rfl) (by omega) (by decide) d_Md_pack_172 ?_
            refine lv_icmp_gt (tgt := 186) hx hb d_Md_pack_173 (by decide) (fun c_6 => ?_) (fun c_6 => ?_)
            · 
              refine lv_iconst (v := 0) hx hb d_Md_pack_186 (by decide) ?_
              exact W.zret (v := 0) (ty := .boolean) hx hb hr (rfl) (fun U hU hW => ⟨⟨0, τ, rfl, by refine ⟨?_, by rw [hs]⟩; rw [hs]; unfold mPackR; dsimp only; rw [mLn_eq hL1 hL8]; obtain rfl : r = L := (by omega); subst hb1; simp [c_2, h_2, c_3, c_5, c_6], by rw [hU]; exact hP, hD⟩, hS.F hU⟩) hS.2.2 d_Md_pack_187
            · 
              refine lv_iload hx hb d_Md_pack_176 (lv_at hl 5 rfl) ?_
              refine lv_iconst (v := 2) hx hb d_Md_pack_178 (by decide) ?_
              refine lv_icmp_ge (tgt := 186) hx hb d_Md_pack_179 (by decide) (fun c_7 => ?_) (fun c_7 => ?_)
              · 
                refine lv_iconst (v := 0) hx hb d_Md_pack_186 (by decide) ?_
                exact W.zret (v := 0) (ty := .boolean) hx hb hr (rfl) (fun U hU hW => ⟨⟨0, τ, rfl, by refine ⟨?_, by rw [hs]⟩; rw [hs]; unfold mPackR; dsimp only; rw [mLn_eq hL1 hL8]; obtain rfl : r = L := (by omega); subst hb1; simp [c_2, h_2, c_3, c_5, c_6, c_7], by rw [hU]; exact hP, hD⟩, hS.F hU⟩) hS.2.2 d_Md_pack_187
              · 
                refine lv_iconst (v := 1) hx hb d_Md_pack_182 (by decide) ?_
                refine lv_goto (tgt := 187) hx hb d_Md_pack_183 (by decide) ?_
                exact W.zret (v := 1) (ty := .boolean) hx hb hr (rfl) (fun U hU hW => ⟨⟨1, τ, rfl, by refine ⟨?_, by rw [hs]⟩; rw [hs]; unfold mPackR; dsimp only; rw [mLn_eq hL1 hL8]; obtain rfl : r = L := (by omega); subst hb1; simp [c_2, h_2, c_3, c_5, c_6, c_7], by rw [hU]; exact hP, hD⟩, hS.F hU⟩) hS.2.2 d_Md_pack_187
      · 
        have h_2 : ¬ L ≤ r := fun q9 => c_2 ((nI_leI (a := L) (b := r) (by omega) (by omega)).mpr q9)
        refine lv_iload hx hb d_Md_pack_122 (lv_at hl 5 rfl) ?_
        refine lv_aload_n hx hb d_Md_pack_124 rfl (lv_at hl 0 rfl) ?_
        refine va_get (D := D) (ci := 7) (v := .ref (a 22)) (C := R_Md) (T := F_Md) (N := 34) hx hb hts (fun w h => List.mem_cons_of_mem _ (i_Md w h)) hown hK.1 hP 0 (wMd_0 t a τ) rfl 22 (by decide) (hts (.fieldLink R_Md 62 "FlatBoxesModel" "breaks" "[Z") (List.mem_cons_of_mem _ (gIn k_688 (by decide +kernel)))) (fun _ h9 => h9) rfl d_Md_pack_125 ?_
        refine lv_iload hx hb d_Md_pack_128 (lv_at hl 6 rfl) ?_
        refine g_zald hx hb hK.1 hP 18 1 (wMd_22 t a τ) rfl r (rfl) (by omega) (by decide) d_Md_pack_130 ?_
        refine lv_if_eq (tgt := 138) hx hb d_Md_pack_131 (by decide) (fun c_8 => ?_) (fun c_8 => ?_)
        · 
          refine lv_iconst (v := 0) hx hb d_Md_pack_138 (by decide) ?_
          refine lv_iadd hx hb d_Md_pack_139 ?_
          refine lv_istore (lv' := [(5, .int (bk + 0)), (0, .ref (a 0)), (1, .int set), (2, .int (nI cc)), (3, .int f), (4, .int w), (6, .int (nI r))]) hx hb d_Md_pack_140 hl (by decide) rfl (fun ls hl => ?_)
          refine lv_iinc (v := nI (r + 1)) (lv' := [(6, .int (nI (r + 1))), (5, .int (bk + 0)), (0, .ref (a 0)), (1, .int set), (2, .int (nI cc)), (3, .int f), (4, .int w)]) hx hb d_Md_pack_142 hl (k := 6) rfl (nI_1 r) (by decide) rfl (fun ls hl => ?_)
          refine lv_goto (tgt := 113) hx hb d_Md_pack_145 (by decide) ?_
          exact ih (r + 1) (bk + 0) τ f w L _ _ _ (by omega) (by omega) (by rw [hb1]; simp [mCnt, c_2, h_2, c_8]) (hs) (hL1) (by omega) hP hD hS (lv_sub hl [2, 3, 4, 5, 6, 1, 0] rfl)
        · 
          refine lv_iconst (v := 1) hx hb d_Md_pack_134 (by decide) ?_
          refine lv_goto (tgt := 139) hx hb d_Md_pack_135 (by decide) ?_
          refine lv_iadd hx hb d_Md_pack_139 ?_
          refine lv_istore (lv' := [(5, .int (bk + 1)), (0, .ref (a 0)), (1, .int set), (2, .int (nI cc)), (3, .int f), (4, .int w), (6, .int (nI r))]) hx hb d_Md_pack_140 hl (by decide) rfl (fun ls hl => ?_)
          refine lv_iinc (v := nI (r + 1)) (lv' := [(6, .int (nI (r + 1))), (5, .int (bk + 1)), (0, .ref (a 0)), (1, .int set), (2, .int (nI cc)), (3, .int f), (4, .int w)]) hx hb d_Md_pack_142 hl (k := 6) rfl (nI_1 r) (by decide) rfl (fun ls hl => ?_)
          refine lv_goto (tgt := 113) hx hb d_Md_pack_145 (by decide) ?_
          exact ih (r + 1) (bk + 1) τ f w L _ _ _ (by omega) (by omega) (by rw [hb1]; simp [mCnt, c_2, h_2, c_8]) (hs) (hL1) (by omega) hP hD hS (lv_sub hl [2, 3, 4, 5, 6, 1, 0] rfl)
  have cut_13 : ∀ (n : Nat) (k : Nat) (τ : Nat → Nat → Int32) (f : Int32) (w : Int32) (L : Nat) (H : Heap) (locs : List Loc) (ls : Array Slot), (k ≤ np) → (np + 1 ≤ k + n) → (mPk σ ord set cc k = (τ, f, w)) → (τ 17 0 = nI L) → (L ≤ k) → (∀ i, (i < 15 ∨ 22 < i) → τ i = σ i) → va_P D gCl (wMd t a τ) H → va_D A (wMd t a τ) → va_S A s.heap H locs → lv_has ls 7 [(0, .ref (a 0)), (1, .int set), (2, .int (nI cc)), (3, .int f), (4, .int w), (5, .int (nI k))] → gGo l p e s m below meth c D t A 1 [.ref (a 0), .int set, .int (nI cc)] (wMd t a) (fun r u => r = mPackR (mPk σ ord set cc np) cc ∧ u = (mPk σ ord set cc np).1) H locs (F0 m 13 ls []) := by
    intro n
    induction n with
    | zero =>
      intro k τ f w L H locs ls hk hf hs hL1 hLk hfix hP hD hS hl
      exact absurd hf (by omega)
    | succ n ih =>
      intro k τ f w L H locs ls hk hf hs hL1 hLk hfix hP hD hS hl
      refine lv_iload hx hb d_Md_pack_13 (lv_at hl 5 rfl) ?_
      refine lv_aload_n hx hb d_Md_pack_15 rfl (lv_at hl 0 rfl) ?_
      refine va_get (D := D) (ci := 7) (v := .int (τ 8 0)) (C := R_Md) (T := F_Md) (N := 34) hx hb hts (fun w h => List.mem_cons_of_mem _ (i_Md w h)) hown hK.1 hP 0 (wMd_0 t a τ) rfl 8 (by decide) (hts (.fieldLink R_Md 113 "FlatBoxesModel" "parts" "I") (List.mem_cons_of_mem _ (gIn k_674 (by decide +kernel)))) (fun _ h9 => h9) rfl d_Md_pack_16 ?_
      refine lv_topi (fun v_9 e_9 => ?_)
      obtain rfl : v_9 = nI np := e_9.trans ((congrFun (hfix 8 (by omega)) 0).trans hN)
      refine lv_icmp_ge (tgt := 107) hx hb d_Md_pack_19 (by decide) (fun c_10 => ?_) (fun c_10 => ?_)
      · 
        have h_10 : np ≤ k := (nI_leI (a := np) (b := k) (by omega) (by omega)).mp c_10
        refine lv_iconst (v := 0) hx hb d_Md_pack_107 (by decide) ?_
        refine lv_istore (lv' := [(5, .int 0), (0, .ref (a 0)), (1, .int set), (2, .int (nI cc)), (3, .int f), (4, .int w)]) hx hb d_Md_pack_108 hl (by decide) rfl (fun ls hl => ?_)
        refine lv_iconst (v := 0) hx hb d_Md_pack_110 (by decide) ?_
        refine lv_istore (lv' := [(6, .int 0), (5, .int 0), (0, .ref (a 0)), (1, .int set), (2, .int (nI cc)), (3, .int f), (4, .int w)]) hx hb d_Md_pack_111 hl (by decide) rfl (fun ls hl => ?_)
        exact cut_113 (L + 1) 0 0 τ f w L _ _ _ (by omega) (by omega) (rfl) (by obtain rfl : k = np := (by omega); exact hs) (hL1) (by omega) hP hD hS (lv_sub hl [2, 3, 4, 5, 6, 1, 0] rfl)
      · 
        have h_10 : ¬ np ≤ k := fun q9 => c_10 ((nI_leI (a := np) (b := k) (by omega) (by omega)).mpr q9)
        refine lv_aload_n hx hb d_Md_pack_22 rfl (lv_at hl 0 rfl) ?_
        refine lv_iload hx hb d_Md_pack_23 (lv_at hl 5 rfl) ?_
        refine g_vi (k := 1) (As := [.int (nI k)]) (rest := []) (own := R_Md) (C := R_Md) (index := 119) ⟨hx, hb, hml, hown, hts⟩ (c_Md_byThickness l D t a τ (nI k) np ((congrFun (hfix 8 (by omega)) 0).trans hN) hN8) (gg_Md_119 _) (by decide +kernel) ⟨Nat.le_of_ble_eq_true rfl, Nat.le_of_ble_eq_true rfl⟩ rfl (va_recv hK.1 hP (ci := 7) (q0 := 0) rfl (wMd_0 t a τ)) hK hP hD hS hl.1 rfl (Nat.le_of_ble_eq_true rfl) ⟨Nat.zero_le _, Nat.zero_le _⟩ d_Md_pack_25 (fun r_11 u_11 H locs q_11 hP hD hS => ?_)
        obtain ⟨hr_11, hu_11⟩ := q_11
        rw [hu_11] at hP hD
        obtain rfl : r_11 = nI (ord k) := hr_11.trans (by rw [hfix 11 (by omega)]; exact (hord k (by omega)).2)
        have ho_11 : ord k < np := (hord k (by omega)).1
        refine lv_istore (lv' := [(6, .int (nI (ord k))), (0, .ref (a 0)), (1, .int set), (2, .int (nI cc)), (3, .int f), (4, .int w), (5, .int (nI k))]) hx hb d_Md_pack_28 hl (by decide) rfl (fun ls hl => ?_)
        refine lv_aload_n hx hb d_Md_pack_30 rfl (lv_at hl 1 rfl) ?_
        refine lv_iload_n hx hb d_Md_pack_31 rfl (lv_at hl 2 rfl) ?_
        refine lv_iload hx hb d_Md_pack_32 (lv_at hl 0 rfl) ?_
        refine g_vi (k := 2) (As := [.int set, .int (nI (ord k))]) (rest := []) (own := R_Md) (C := R_Md) (index := 123) ⟨hx, hb, hml, hown, hts⟩ (c_Md_has l D t a τ set (nI (ord k))) (gg_Md_123 _) (by decide +kernel) ⟨Nat.le_of_ble_eq_true rfl, Nat.le_of_ble_eq_true rfl⟩ rfl (va_recv hK.1 hP (ci := 7) (q0 := 0) rfl (wMd_0 t a τ)) hK hP hD hS hl.1 rfl (Nat.le_of_ble_eq_true rfl) ⟨Nat.zero_le _, Nat.zero_le _⟩ d_Md_pack_34 (fun r_12 u_12 H locs q_12 hP hD hS => ?_)
        obtain ⟨rfl, hu_12⟩ := q_12
        rw [hu_12] at hP hD
        refine lv_if_eq (tgt := 101) hx hb d_Md_pack_37 (by decide) (fun c_13 => ?_) (fun c_13 => ?_)
        · 
          refine lv_iinc (v := nI (k + 1)) (lv' := [(5, .int (nI (k + 1))), (6, .int (nI (ord k))), (0, .ref (a 0)), (1, .int set), (2, .int (nI cc)), (3, .int f), (4, .int w)]) hx hb d_Md_pack_101 hl (k := 6) rfl (nI_1 k) (by decide) rfl (fun ls hl => ?_)
          refine lv_goto (tgt := 13) hx hb d_Md_pack_104 (by decide) ?_
          exact ih (k + 1) τ f w L _ _ _ (by omega) (by omega) (by first | (simp [mPk, hs, mFit, hL1, nI_clamp (show L < 2 ^ 31 by omega), c_10, h_10, c_13]; done) | (simp [mPk, hs, c_10, h_10, c_13]; done)) (by first | exact hL1 | exact mPlace_L hL1) (by first | omega | (have := mNewL_le τ (ord k) cc L; omega)) (by first | exact hfix | exact fun i hi => (mPlace_fix _ _ _ _ hi).trans (hfix i hi)) hP hD hS (lv_sub hl [2, 3, 4, 5, 6, 0] rfl)
        · 
          refine lv_iload_n hx hb d_Md_pack_40 rfl (lv_at hl 4 rfl) ?_
          refine lv_if_eq (tgt := 80) hx hb d_Md_pack_41 (by decide) (fun c_14 => ?_) (fun c_14 => ?_)
          · 
            refine lv_iconst (v := 0) hx hb d_Md_pack_80 (by decide) ?_
            refine lv_istore_n (lv' := [(3, .int 0), (6, .int (nI (ord k))), (0, .ref (a 0)), (1, .int set), (2, .int (nI cc)), (4, .int w), (5, .int (nI k))]) hx hb d_Md_pack_81 rfl hl (by decide) rfl (fun ls hl => ?_)
            refine lv_iload hx hb d_Md_pack_82 (lv_at hl 5 rfl) ?_
            refine lv_aload_n hx hb d_Md_pack_84 rfl (lv_at hl 2 rfl) ?_
            refine va_get (D := D) (ci := 7) (v := .ref (a 12)) (C := R_Md) (T := F_Md) (N := 34) hx hb hts (fun w h => List.mem_cons_of_mem _ (i_Md w h)) hown hK.1 hP 0 (wMd_0 t a τ) rfl 12 (by decide) (hts (.fieldLink R_Md 34 "FlatBoxesModel" "grams" "[I") (List.mem_cons_of_mem _ (gIn k_678 (by decide +kernel)))) (fun _ h9 => h9) rfl d_Md_pack_85 ?_
            refine lv_iload hx hb d_Md_pack_88 (lv_at hl 1 rfl) ?_
            refine g_iald hx hb hK.1 hP 9 0 (wMd_12 t a τ) rfl (ord k) (rfl) (by omega) (by decide) d_Md_pack_90 ?_
            refine lv_iadd hx hb d_Md_pack_91 ?_
            refine lv_istore (lv' := [(4, .int (w + (τ 12 (ord k)))), (3, .int 0), (6, .int (nI (ord k))), (0, .ref (a 0)), (1, .int set), (2, .int (nI cc)), (5, .int (nI k))]) hx hb d_Md_pack_92 hl (by decide) rfl (fun ls hl => ?_)
            refine lv_aload_n hx hb d_Md_pack_94 rfl (lv_at hl 3 rfl) ?_
            refine lv_iload hx hb d_Md_pack_95 (lv_at hl 2 rfl) ?_
            refine lv_iload_n hx hb d_Md_pack_97 rfl (lv_at hl 5 rfl) ?_
            refine g_vv (k := 2) (As := [.int (nI (ord k)), .int (nI cc)]) (rest := []) (own := R_Md) (C := R_Md) (index := 127) ⟨hx, hb, hml, hown, hts⟩ (c_Md_place l D t a τ (ord k) cc L hL1 (by omega) (by omega) hc) (gg_Md_127 _) (by decide +kernel) ⟨Nat.le_of_ble_eq_true rfl, Nat.le_of_ble_eq_true rfl⟩ rfl (va_recv hK.1 hP (ci := 7) (q0 := 0) rfl (wMd_0 t a τ)) hK hP hD hS hl.1 rfl (Nat.le_of_ble_eq_true rfl) ⟨Nat.zero_le _, Nat.zero_le _⟩ d_Md_pack_98 (fun u_15 H locs q_15 hP hD hS => ?_)
            have hu_15 : u_15 = _ := q_15
            rw [hu_15] at hP hD
            refine lv_iinc (v := nI (k + 1)) (lv' := [(5, .int (nI (k + 1))), (4, .int (w + (τ 12 (ord k)))), (3, .int 0), (6, .int (nI (ord k))), (0, .ref (a 0)), (1, .int set), (2, .int (nI cc))]) hx hb d_Md_pack_101 hl (k := 6) rfl (nI_1 k) (by decide) rfl (fun ls hl => ?_)
            refine lv_goto (tgt := 13) hx hb d_Md_pack_104 (by decide) ?_
            exact ih (k + 1) (mPlace τ (ord k) cc L) 0 (w + (τ 12 (ord k))) (mNewL τ (ord k) cc L) _ _ _ (by omega) (by omega) (by first | (simp [mPk, hs, mFit, hL1, nI_clamp (show L < 2 ^ 31 by omega), c_10, h_10, c_13, c_14]; done) | (simp [mPk, hs, c_10, h_10, c_13, c_14]; done)) (by first | exact hL1 | exact mPlace_L hL1) (by first | omega | (have := mNewL_le τ (ord k) cc L; omega)) (by first | exact hfix | exact fun i hi => (mPlace_fix _ _ _ _ hi).trans (hfix i hi)) hP hD hS (lv_sub hl [4, 5, 6, 2, 1, 0] rfl)
          · 
            refine lv_aload_n hx hb d_Md_pack_44 rfl (lv_at hl 1 rfl) ?_
            refine va_get (D := D) (ci := 7) (v := .ref (a 9)) (C := R_Md) (T := F_Md) (N := 34) hx hb hts (fun w h => List.mem_cons_of_mem _ (i_Md w h)) hown hK.1 hP 0 (wMd_0 t a τ) rfl 9 (by decide) (hts (.fieldLink R_Md 25 "FlatBoxesModel" "wides" "[I") (List.mem_cons_of_mem _ (gIn k_675 (by decide +kernel)))) (fun _ h9 => h9) rfl d_Md_pack_45 ?_
            refine lv_iload hx hb d_Md_pack_48 (lv_at hl 0 rfl) ?_
            refine g_iald hx hb hK.1 hP 6 0 (wMd_9 t a τ) rfl (ord k) (rfl) (by omega) (by decide) d_Md_pack_50 ?_
            refine lv_aload_n hx hb d_Md_pack_51 rfl (lv_at hl 1 rfl) ?_
            refine va_get (D := D) (ci := 7) (v := .ref (a 3)) (C := R_Md) (T := F_Md) (N := 34) hx hb hts (fun w h => List.mem_cons_of_mem _ (i_Md w h)) hown hK.1 hP 0 (wMd_0 t a τ) rfl 3 (by decide) (hts (.fieldLink R_Md 7 "FlatBoxesModel" "widths" "[I") (List.mem_cons_of_mem _ (gIn k_669 (by decide +kernel)))) (fun _ h9 => h9) rfl d_Md_pack_52 ?_
            refine lv_iload_n hx hb d_Md_pack_55 rfl (lv_at hl 3 rfl) ?_
            refine g_iald hx hb hK.1 hP 1 0 (wMd_3 t a τ) rfl cc (rfl) (by omega) (by decide) d_Md_pack_56 ?_
            refine lv_icmp_gt (tgt := 80) hx hb d_Md_pack_57 (by decide) (fun c_16 => ?_) (fun c_16 => ?_)
            · 
              refine lv_iconst (v := 0) hx hb d_Md_pack_80 (by decide) ?_
              refine lv_istore_n (lv' := [(3, .int 0), (6, .int (nI (ord k))), (0, .ref (a 0)), (1, .int set), (2, .int (nI cc)), (4, .int w), (5, .int (nI k))]) hx hb d_Md_pack_81 rfl hl (by decide) rfl (fun ls hl => ?_)
              refine lv_iload hx hb d_Md_pack_82 (lv_at hl 5 rfl) ?_
              refine lv_aload_n hx hb d_Md_pack_84 rfl (lv_at hl 2 rfl) ?_
              refine va_get (D := D) (ci := 7) (v := .ref (a 12)) (C := R_Md) (T := F_Md) (N := 34) hx hb hts (fun w h => List.mem_cons_of_mem _ (i_Md w h)) hown hK.1 hP 0 (wMd_0 t a τ) rfl 12 (by decide) (hts (.fieldLink R_Md 34 "FlatBoxesModel" "grams" "[I") (List.mem_cons_of_mem _ (gIn k_678 (by decide +kernel)))) (fun _ h9 => h9) rfl d_Md_pack_85 ?_
              refine lv_iload hx hb d_Md_pack_88 (lv_at hl 1 rfl) ?_
              refine g_iald hx hb hK.1 hP 9 0 (wMd_12 t a τ) rfl (ord k) (rfl) (by omega) (by decide) d_Md_pack_90 ?_
              refine lv_iadd hx hb d_Md_pack_91 ?_
              refine lv_istore (lv' := [(4, .int (w + (τ 12 (ord k)))), (3, .int 0), (6, .int (nI (ord k))), (0, .ref (a 0)), (1, .int set), (2, .int (nI cc)), (5, .int (nI k))]) hx hb d_Md_pack_92 hl (by decide) rfl (fun ls hl => ?_)
              refine lv_aload_n hx hb d_Md_pack_94 rfl (lv_at hl 3 rfl) ?_
              refine lv_iload hx hb d_Md_pack_95 (lv_at hl 2 rfl) ?_
              refine lv_iload_n hx hb d_Md_pack_97 rfl (lv_at hl 5 rfl) ?_
              refine g_vv (k := 2) (As := [.int (nI (ord k)), .int (nI cc)]) (rest := []) (own := R_Md) (C := R_Md) (index := 127) ⟨hx, hb, hml, hown, hts⟩ (c_Md_place l D t a τ (ord k) cc L hL1 (by omega) (by omega) hc) (gg_Md_127 _) (by decide +kernel) ⟨Nat.le_of_ble_eq_true rfl, Nat.le_of_ble_eq_true rfl⟩ rfl (va_recv hK.1 hP (ci := 7) (q0 := 0) rfl (wMd_0 t a τ)) hK hP hD hS hl.1 rfl (Nat.le_of_ble_eq_true rfl) ⟨Nat.zero_le _, Nat.zero_le _⟩ d_Md_pack_98 (fun u_17 H locs q_17 hP hD hS => ?_)
              have hu_17 : u_17 = _ := q_17
              rw [hu_17] at hP hD
              refine lv_iinc (v := nI (k + 1)) (lv' := [(5, .int (nI (k + 1))), (4, .int (w + (τ 12 (ord k)))), (3, .int 0), (6, .int (nI (ord k))), (0, .ref (a 0)), (1, .int set), (2, .int (nI cc))]) hx hb d_Md_pack_101 hl (k := 6) rfl (nI_1 k) (by decide) rfl (fun ls hl => ?_)
              refine lv_goto (tgt := 13) hx hb d_Md_pack_104 (by decide) ?_
              exact ih (k + 1) (mPlace τ (ord k) cc L) 0 (w + (τ 12 (ord k))) (mNewL τ (ord k) cc L) _ _ _ (by omega) (by omega) (by first | (simp [mPk, hs, mFit, hL1, nI_clamp (show L < 2 ^ 31 by omega), c_10, h_10, c_13, c_14, c_16]; done) | (simp [mPk, hs, c_10, h_10, c_13, c_14, c_16]; done)) (by first | exact hL1 | exact mPlace_L hL1) (by first | omega | (have := mNewL_le τ (ord k) cc L; omega)) (by first | exact hfix | exact fun i hi => (mPlace_fix _ _ _ _ hi).trans (hfix i hi)) hP hD hS (lv_sub hl [4, 5, 6, 2, 1, 0] rfl)
            · 
              refine lv_aload_n hx hb d_Md_pack_60 rfl (lv_at hl 1 rfl) ?_
              refine va_get (D := D) (ci := 7) (v := .ref (a 10)) (C := R_Md) (T := F_Md) (N := 34) hx hb hts (fun w h => List.mem_cons_of_mem _ (i_Md w h)) hown hK.1 hP 0 (wMd_0 t a τ) rfl 10 (by decide) (hts (.fieldLink R_Md 28 "FlatBoxesModel" "deeps" "[I") (List.mem_cons_of_mem _ (gIn k_676 (by decide +kernel)))) (fun _ h9 => h9) rfl d_Md_pack_61 ?_
              refine lv_iload hx hb d_Md_pack_64 (lv_at hl 0 rfl) ?_
              refine g_iald hx hb hK.1 hP 7 0 (wMd_10 t a τ) rfl (ord k) (rfl) (by omega) (by decide) d_Md_pack_66 ?_
              refine lv_aload_n hx hb d_Md_pack_67 rfl (lv_at hl 1 rfl) ?_
              refine va_get (D := D) (ci := 7) (v := .ref (a 4)) (C := R_Md) (T := F_Md) (N := 34) hx hb hts (fun w h => List.mem_cons_of_mem _ (i_Md w h)) hown hK.1 hP 0 (wMd_0 t a τ) rfl 4 (by decide) (hts (.fieldLink R_Md 13 "FlatBoxesModel" "depths" "[I") (List.mem_cons_of_mem _ (gIn k_670 (by decide +kernel)))) (fun _ h9 => h9) rfl d_Md_pack_68 ?_
              refine lv_iload_n hx hb d_Md_pack_71 rfl (lv_at hl 3 rfl) ?_
              refine g_iald hx hb hK.1 hP 2 0 (wMd_4 t a τ) rfl cc (rfl) (by omega) (by decide) d_Md_pack_72 ?_
              refine lv_icmp_gt (tgt := 80) hx hb d_Md_pack_73 (by decide) (fun c_18 => ?_) (fun c_18 => ?_)
              · 
                refine lv_iconst (v := 0) hx hb d_Md_pack_80 (by decide) ?_
                refine lv_istore_n (lv' := [(3, .int 0), (6, .int (nI (ord k))), (0, .ref (a 0)), (1, .int set), (2, .int (nI cc)), (4, .int w), (5, .int (nI k))]) hx hb d_Md_pack_81 rfl hl (by decide) rfl (fun ls hl => ?_)
                refine lv_iload hx hb d_Md_pack_82 (lv_at hl 5 rfl) ?_
                refine lv_aload_n hx hb d_Md_pack_84 rfl (lv_at hl 2 rfl) ?_
                refine va_get (D := D) (ci := 7) (v := .ref (a 12)) (C := R_Md) (T := F_Md) (N := 34) hx hb hts (fun w h => List.mem_cons_of_mem _ (i_Md w h)) hown hK.1 hP 0 (wMd_0 t a τ) rfl 12 (by decide) (hts (.fieldLink R_Md 34 "FlatBoxesModel" "grams" "[I") (List.mem_cons_of_mem _ (gIn k_678 (by decide +kernel)))) (fun _ h9 => h9) rfl d_Md_pack_85 ?_
                refine lv_iload hx hb d_Md_pack_88 (lv_at hl 1 rfl) ?_
                refine g_iald hx hb hK.1 hP 9 0 (wMd_12 t a τ) rfl (ord k) (rfl) (by omega) (by decide) d_Md_pack_90 ?_
                refine lv_iadd hx hb d_Md_pack_91 ?_
                refine lv_istore (lv' := [(4, .int (w + (τ 12 (ord k)))), (3, .int 0), (6, .int (nI (ord k))), (0, .ref (a 0)), (1, .int set), (2, .int (nI cc)), (5, .int (nI k))]) hx hb d_Md_pack_92 hl (by decide) rfl (fun ls hl => ?_)
                refine lv_aload_n hx hb d_Md_pack_94 rfl (lv_at hl 3 rfl) ?_
                refine lv_iload hx hb d_Md_pack_95 (lv_at hl 2 rfl) ?_
                refine lv_iload_n hx hb d_Md_pack_97 rfl (lv_at hl 5 rfl) ?_
                refine g_vv (k := 2) (As := [.int (nI (ord k)), .int (nI cc)]) (rest := []) (own := R_Md) (C := R_Md) (index := 127) ⟨hx, hb, hml, hown, hts⟩ (c_Md_place l D t a τ (ord k) cc L hL1 (by omega) (by omega) hc) (gg_Md_127 _) (by decide +kernel) ⟨Nat.le_of_ble_eq_true rfl, Nat.le_of_ble_eq_true rfl⟩ rfl (va_recv hK.1 hP (ci := 7) (q0 := 0) rfl (wMd_0 t a τ)) hK hP hD hS hl.1 rfl (Nat.le_of_ble_eq_true rfl) ⟨Nat.zero_le _, Nat.zero_le _⟩ d_Md_pack_98 (fun u_19 H locs q_19 hP hD hS => ?_)
                have hu_19 : u_19 = _ := q_19
                rw [hu_19] at hP hD
                refine lv_iinc (v := nI (k + 1)) (lv' := [(5, .int (nI (k + 1))), (4, .int (w + (τ 12 (ord k)))), (3, .int 0), (6, .int (nI (ord k))), (0, .ref (a 0)), (1, .int set), (2, .int (nI cc))]) hx hb d_Md_pack_101 hl (k := 6) rfl (nI_1 k) (by decide) rfl (fun ls hl => ?_)
                refine lv_goto (tgt := 13) hx hb d_Md_pack_104 (by decide) ?_
                exact ih (k + 1) (mPlace τ (ord k) cc L) 0 (w + (τ 12 (ord k))) (mNewL τ (ord k) cc L) _ _ _ (by omega) (by omega) (by first | (simp [mPk, hs, mFit, hL1, nI_clamp (show L < 2 ^ 31 by omega), c_10, h_10, c_13, c_14, c_16, c_18]; done) | (simp [mPk, hs, c_10, h_10, c_13, c_14, c_16, c_18]; done)) (by first | exact hL1 | exact mPlace_L hL1) (by first | omega | (have := mNewL_le τ (ord k) cc L; omega)) (by first | exact hfix | exact fun i hi => (mPlace_fix _ _ _ _ hi).trans (hfix i hi)) hP hD hS (lv_sub hl [4, 5, 6, 2, 1, 0] rfl)
              · 
                refine lv_iconst (v := 1) hx hb d_Md_pack_76 (by decide) ?_
                refine lv_goto (tgt := 81) hx hb d_Md_pack_77 (by decide) ?_
                refine lv_istore_n (lv' := [(3, .int 1), (6, .int (nI (ord k))), (0, .ref (a 0)), (1, .int set), (2, .int (nI cc)), (4, .int w), (5, .int (nI k))]) hx hb d_Md_pack_81 rfl hl (by decide) rfl (fun ls hl => ?_)
                refine lv_iload hx hb d_Md_pack_82 (lv_at hl 5 rfl) ?_
                refine lv_aload_n hx hb d_Md_pack_84 rfl (lv_at hl 2 rfl) ?_
                refine va_get (D := D) (ci := 7) (v := .ref (a 12)) (C := R_Md) (T := F_Md) (N := 34) hx hb hts (fun w h => List.mem_cons_of_mem _ (i_Md w h)) hown hK.1 hP 0 (wMd_0 t a τ) rfl 12 (by decide) (hts (.fieldLink R_Md 34 "FlatBoxesModel" "grams" "[I") (List.mem_cons_of_mem _ (gIn k_678 (by decide +kernel)))) (fun _ h9 => h9) rfl d_Md_pack_85 ?_
                refine lv_iload hx hb d_Md_pack_88 (lv_at hl 1 rfl) ?_
                refine g_iald hx hb hK.1 hP 9 0 (wMd_12 t a τ) rfl (ord k) (rfl) (by omega) (by decide) d_Md_pack_90 ?_
                refine lv_iadd hx hb d_Md_pack_91 ?_
                refine lv_istore (lv' := [(4, .int (w + (τ 12 (ord k)))), (3, .int 1), (6, .int (nI (ord k))), (0, .ref (a 0)), (1, .int set), (2, .int (nI cc)), (5, .int (nI k))]) hx hb d_Md_pack_92 hl (by decide) rfl (fun ls hl => ?_)
                refine lv_aload_n hx hb d_Md_pack_94 rfl (lv_at hl 3 rfl) ?_
                refine lv_iload hx hb d_Md_pack_95 (lv_at hl 2 rfl) ?_
                refine lv_iload_n hx hb d_Md_pack_97 rfl (lv_at hl 5 rfl) ?_
                refine g_vv (k := 2) (As := [.int (nI (ord k)), .int (nI cc)]) (rest := []) (own := R_Md) (C := R_Md) (index := 127) ⟨hx, hb, hml, hown, hts⟩ (c_Md_place l D t a τ (ord k) cc L hL1 (by omega) (by omega) hc) (gg_Md_127 _) (by decide +kernel) ⟨Nat.le_of_ble_eq_true rfl, Nat.le_of_ble_eq_true rfl⟩ rfl (va_recv hK.1 hP (ci := 7) (q0 := 0) rfl (wMd_0 t a τ)) hK hP hD hS hl.1 rfl (Nat.le_of_ble_eq_true rfl) ⟨Nat.zero_le _, Nat.zero_le _⟩ d_Md_pack_98 (fun u_20 H locs q_20 hP hD hS => ?_)
                have hu_20 : u_20 = _ := q_20
                rw [hu_20] at hP hD
                refine lv_iinc (v := nI (k + 1)) (lv' := [(5, .int (nI (k + 1))), (4, .int (w + (τ 12 (ord k)))), (3, .int 1), (6, .int (nI (ord k))), (0, .ref (a 0)), (1, .int set), (2, .int (nI cc))]) hx hb d_Md_pack_101 hl (k := 6) rfl (nI_1 k) (by decide) rfl (fun ls hl => ?_)
                refine lv_goto (tgt := 13) hx hb d_Md_pack_104 (by decide) ?_
                exact ih (k + 1) (mPlace τ (ord k) cc L) 1 (w + (τ 12 (ord k))) (mNewL τ (ord k) cc L) _ _ _ (by omega) (by omega) (by first | (simp [mPk, hs, mFit, hL1, nI_clamp (show L < 2 ^ 31 by omega), c_10, h_10, c_13, c_14, c_16, c_18]; done) | (simp [mPk, hs, c_10, h_10, c_13, c_14, c_16, c_18]; done)) (by first | exact hL1 | exact mPlace_L hL1) (by first | omega | (have := mNewL_le τ (ord k) cc L; omega)) (by first | exact hfix | exact fun i hi => (mPlace_fix _ _ _ _ hi).trans (hfix i hi)) hP hD hS (lv_sub hl [4, 5, 6, 2, 1, 0] rfl)
  refine lv_aload_n hx hb d_Md_pack_0 rfl (lv_at hl 0 rfl) ?_
  refine lv_iconst (v := 0) hx hb d_Md_pack_1 (by decide) ?_
  refine va_put (D := D) (ci := 7) (v := .int 0) (ty := .int) (C := R_Md) (T := F_Md) (N := 34) hx hb hts (fun w h => List.mem_cons_of_mem _ (i_Md w h)) t_Md t_Md_ok n_Md hown hK.1 hP hD hS 0 (wMd_0 t a σ) rfl 17 (by decide) (hts (.fieldLink R_Md 116 "FlatBoxesModel" "layers" "I") (List.mem_cons_of_mem _ (gIn k_683 (by decide +kernel)))) (fun _ h9 => h9) rfl (by decide +kernel) rfl rfl (Nat.le_of_ble_eq_true rfl) d_Md_pack_2 (fun H locs hP hD hS => ?_)
  have hP : va_P D gCl (wMd t a (gSt σ 17 0 0)) H := hP
  have hD : va_D A (wMd t a (gSt σ 17 0 0)) := hD
  refine lv_iconst (v := 1) hx hb d_Md_pack_5 (by decide) ?_
  refine lv_istore_n (lv' := [(3, .int 1), (0, .ref (a 0)), (1, .int set), (2, .int (nI cc))]) hx hb d_Md_pack_6 rfl hl (by decide) rfl (fun ls hl => ?_)
  refine lv_iconst (v := 0) hx hb d_Md_pack_7 (by decide) ?_
  refine lv_istore (lv' := [(4, .int 0), (3, .int 1), (0, .ref (a 0)), (1, .int set), (2, .int (nI cc))]) hx hb d_Md_pack_8 hl (by decide) rfl (fun ls hl => ?_)
  refine lv_iconst (v := 0) hx hb d_Md_pack_10 (by decide) ?_
  refine lv_istore (lv' := [(5, .int 0), (4, .int 0), (3, .int 1), (0, .ref (a 0)), (1, .int set), (2, .int (nI cc))]) hx hb d_Md_pack_11 hl (by decide) rfl (fun ls hl => ?_)
  exact cut_13 (np + 1) 0 (gSt σ 17 0 0) 1 0 0 _ _ _ (by omega) (by omega) (rfl) (rfl) (by omega) (fun i hi => gSt_ne _ _ _ _ (by omega)) hP hD hS (lv_sub hl [3, 4, 5, 2, 1, 0] rfl)
end
section
theorem gb1 {x : Int32} (h : x = 0 ∨ x = 1) (c : ¬ x = 0) : 1 = x := by rcases h with h | h; exact absurd h c; exact h.symm
theorem mIn_nat {v : Int32} {n : Nat} (hn : n ≤ 1000) (h : ¬ mIn v 0 (nI n - 1) = 0) : ∃ j : Nat, j < n ∧ v = nI j := by
  unfold mIn at h
  by_cases h1 : v < 0
  · simp [h1] at h
  · by_cases h2 : nI n - 1 < v
    · simp [h1, h2] at h
    · obtain ⟨j, hj, rfl⟩ := nI_of h1
      refine ⟨j, ?_, rfl⟩
      rw [Int32.not_lt, Int32.le_iff_toInt_le, nI_toInt hj] at h2
      rcases Nat.eq_zero_or_pos n with rfl | h3
      · have e : (nI 0 - 1).toInt = -1 := by decide
        rw [e] at h2
        omega
      · obtain ⟨q, rfl⟩ : ∃ q, n = q + 1 := ⟨n - 1, by omega⟩
        rw [nI_pred, nI_toInt (by omega)] at h2
        omega
theorem mPk_fix (σ : Nat → Nat → Int32) (ord : Nat → Nat) (set : Int32) (c : Nat) {i : Nat} (h : i < 15 ∨ 22 < i) : ∀ k, (mPk σ ord set c k).1 i = σ i
  | 0 => gSt_ne _ _ _ _ (by omega)
  | k + 1 => by
    unfold mPk
    split
    · exact mPk_fix σ ord set c h k
    · dsimp only
      rw [mPlace_fix _ _ _ _ h]
      exact mPk_fix σ ord set c h k
def mFitsCode (nc np : Nat) (carton set : Int32) : Int32 := if mIn carton 0 (nI nc - 1) = 0 then 1 else if set < 1 then 2 else if set < (1 : Int32) <<< (nI np &&& 31) then 0 else 2
def mFitsX (σ : Nat → Nat → Int32) (ord : Nat → Nat) (np : Nat) (carton set : Int32) : (Nat → Nat → Int32) × Int32 × Int32 := mPk (gSt σ 0 0 0) ord set carton.toNatClampNeg np
def mFitsR (σ : Nat → Nat → Int32) (ord : Nat → Nat) (nc np : Nat) (carton set : Int32) : Int32 := if mFitsCode nc np carton set = 0 then mPackR (mFitsX σ ord np carton set) carton.toNatClampNeg else 0
def mFitsU (σ : Nat → Nat → Int32) (ord : Nat → Nat) (nc np : Nat) (carton set : Int32) : Nat → Nat → Int32 := if mFitsCode nc np carton set = 0 then (mFitsX σ ord np carton set).1 else gSt σ 0 0 (mFitsCode nc np carton set)
def mFB (σ : Nat → Nat → Int32) (ord : Nat → Nat) (set : Int32) (np : Nat) : Nat → (Nat → Nat → Int32) × Int32
  | 0 => (σ, -1)
  | c + 1 => ((mPk (mFB σ ord set np c).1 ord set c np).1, if mPackR (mPk (mFB σ ord set np c).1 ord set c np) c = 0 then (mFB σ ord set np c).2 else if (mFB σ ord set np c).2 < 0 then nI c else if σ 6 (mFB σ ord set np c).2.toNatClampNeg ≤ σ 6 c then (mFB σ ord set np c).2 else nI c)
def mFBs (σ : Nat → Nat → Int32) (ord : Nat → Nat) (nc np : Nat) : Nat → (Nat → Nat → Int32)
  | 0 => σ
  | j + 1 => gSt (mFB (mFBs σ ord nc np j) ord (nI (j + 1)) np nc).1 23 (j + 1) (mFB (mFBs σ ord nc np j) ord (nI (j + 1)) np nc).2

theorem gg_Md_135 (w0 : Cond) : GoodIn (w0 :: gBig) (wsV R_Md 135 R_Md y_Md_pack (.code y_Md_pack b_Md_pack 7 (some .boolean) :: gBig)) := gGoodV (gIn k_797 (by decide +kernel)) (gIn k_799 (by decide +kernel)) (gInP (List.mem_of_getElem? (i := 16) (by decide +kernel)) (by decide +kernel)) (gIn k_9 (by decide +kernel)) (gIn k_800 (by decide +kernel))
set_option maxHeartbeats 4000000 in
set_option maxRecDepth 100000 in
theorem c_Md_fits (l : Launch) (D : va_G) (t : Nat → ClassId) (a : Nat → Nat) (σ : Nat → Nat → Int32) (carton set : Int32) (nc np : Nat) (ord : Nat → Nat) (hC : σ 2 0 = nI nc) (hC4 : nc ≤ 4) (hN : σ 8 0 = nI np) (hN8 : np ≤ 8) (hord : ∀ k, k < np → ord k < np ∧ mBT (σ 11) np (nI k) np 0 = nI (ord k)) : gMi l D t y_Md_fits b_Md_fits 3 (some .boolean) 2 [.ref (a 0), .int carton, .int set] (wMd t a σ) (wMd t a) (fun r u => r = mFitsR σ ord nc np carton set ∧ u = mFitsU σ ord nc np carton set) := by
  intro A
  refine Met.ofW (cc := b_Md_fits) (maxL := 3) (ret := (some .boolean)) (by decide) rfl ?_
  intro p e s m args below meth c s₁ B hml hv
  obtain ⟨rfl, hK, hP, hD⟩ := hv
  have hx := B.exec
  have hb := B.bytes
  have hr := B.returns
  have hts := atoms_spec (ws := .code y_Md_fits b_Md_fits 3 (some .boolean) :: gBig) B.pre
  have hown : s.vm.findClass R_Md = some m.cls := findClass_of_methodNamed B.named
  have hlocks := B.notSynchronized
  have hS : va_S A s.heap s.heap [] := va_S.rf
  have hl := lv_entry ([.ref (a 0), .int carton, .int set]) (n := 3) (Nat.le_of_ble_eq_true rfl)
  rw [lg_entry_eq]
  generalize (lg_sl ([.ref (a 0), .int carton, .int set]) ++ List.replicate (3 - (lg_sl ([.ref (a 0), .int carton, .int set])).length) Slot.unset).toArray = ls at hl ⊢
  have hl : lv_has ls 3 [(0, .ref (a 0)), (1, .int carton), (2, .int set)] := hl
  show gGo l p e s m below meth c D t A 2 [.ref (a 0), .int carton, .int set] (wMd t a) (fun r u => r = mFitsR σ ord nc np carton set ∧ u = mFitsU σ ord nc np carton set) s.heap [] (F0 m 0 ls [])
  refine lv_aload_n hx hb d_Md_fits_0 rfl (lv_at hl 0 rfl) ?_
  refine lv_iload_n hx hb d_Md_fits_1 rfl (lv_at hl 1 rfl) ?_
  refine lv_iconst (v := 0) hx hb d_Md_fits_2 (by decide) ?_
  refine lv_aload_n hx hb d_Md_fits_3 rfl (lv_at hl 0 rfl) ?_
  refine va_get (D := D) (ci := 7) (v := .int (σ 2 0)) (C := R_Md) (T := F_Md) (N := 34) hx hb hts (fun w h => List.mem_cons_of_mem _ (i_Md w h)) hown hK.1 hP 0 (wMd_0 t a σ) rfl 2 (by decide) (hts (.fieldLink R_Md 105 "FlatBoxesModel" "cartons" "I") (List.mem_cons_of_mem _ (gIn k_668 (by decide +kernel)))) (fun _ h9 => h9) rfl d_Md_fits_4 ?_
  refine lv_topi (fun v_1 e_1 => ?_)
  obtain rfl : v_1 = nI nc := e_1.trans hC
  refine lv_iconst (v := 1) hx hb d_Md_fits_7 (by decide) ?_
  refine lv_isub hx hb d_Md_fits_8 ?_
  refine g_si (k := 3) (As := [.int carton, .int 0, .int ((nI nc) - 1)]) (rest := [.ref (a 0)]) (own := R_Md) (index := 96) ⟨hx, hb, hml, hown, hts⟩ (c_Md_in l D t a σ carton 0 ((nI nc) - 1)) (gg_Md_96 _) (by decide +kernel) ⟨Nat.le_of_ble_eq_true rfl, Nat.le_of_ble_eq_true rfl⟩ rfl hK hP hD hS hl.1 rfl (Nat.le_of_ble_eq_true rfl) ⟨Nat.zero_le _, Nat.zero_le _⟩ d_Md_fits_9 (fun r_2 u_2 H locs q_2 hP hD hS => ?_)
  obtain ⟨rfl, hu_2⟩ := q_2
  rw [hu_2] at hP hD
  refine lv_if_ne (tgt := 19) hx hb d_Md_fits_12 (by decide) (fun c_3 => ?_) (fun c_3 => ?_)
  · 
    refine lv_iload_n hx hb d_Md_fits_19 rfl (lv_at hl 2 rfl) ?_
    refine lv_iconst (v := 1) hx hb d_Md_fits_20 (by decide) ?_
    refine lv_icmp_lt (tgt := 34) hx hb d_Md_fits_21 (by decide) (fun c_4 => ?_) (fun c_4 => ?_)
    · 
      refine lv_iconst (v := 2) hx hb d_Md_fits_34 (by decide) ?_
      refine lv_goto (tgt := 39) hx hb d_Md_fits_35 (by decide) ?_
      refine va_put (D := D) (ci := 7) (v := .int 2) (ty := .int) (C := R_Md) (T := F_Md) (N := 34) hx hb hts (fun w h => List.mem_cons_of_mem _ (i_Md w h)) t_Md t_Md_ok n_Md hown hK.1 hP hD hS 0 (wMd_0 t a σ) rfl 0 (by decide) (hts (.fieldLink R_Md 93 "FlatBoxesModel" "code" "I") (List.mem_cons_of_mem _ (gIn k_666 (by decide +kernel)))) (fun _ h9 => h9) rfl (by decide +kernel) rfl rfl (Nat.le_of_ble_eq_true rfl) d_Md_fits_39 (fun H locs hP hD hS => ?_)
      have hP : va_P D gCl (wMd t a (gSt σ 0 0 2)) H := hP
      have hD : va_D A (wMd t a (gSt σ 0 0 2)) := hD
      refine lv_aload_n hx hb d_Md_fits_42 rfl (lv_at hl 0 rfl) ?_
      refine va_get (D := D) (ci := 7) (v := .int ((gSt σ 0 0 2) 0 0)) (C := R_Md) (T := F_Md) (N := 34) hx hb hts (fun w h => List.mem_cons_of_mem _ (i_Md w h)) hown hK.1 hP 0 (wMd_0 t a (gSt σ 0 0 2)) rfl 0 (by decide) (hts (.fieldLink R_Md 93 "FlatBoxesModel" "code" "I") (List.mem_cons_of_mem _ (gIn k_666 (by decide +kernel)))) (fun _ h9 => h9) rfl d_Md_fits_43 ?_
      refine lv_topi (fun v_5 e_5 => ?_)
      obtain rfl : v_5 = 2 := e_5.trans (rfl)
      refine lv_if_ne (tgt := 62) hx hb d_Md_fits_46 (by decide) (fun c_6 => ?_) (fun c_6 => ?_)
      · 
        refine lv_iconst (v := 0) hx hb d_Md_fits_62 (by decide) ?_
        exact W.zret (v := 0) (ty := .boolean) hx hb hr (rfl) (fun U hU hW => ⟨⟨0, gSt σ 0 0 2, rfl, by exact ⟨by simp [mFitsR, mFitsCode, c_3, c_4, c_6], by simp [mFitsU, mFitsCode, c_3, c_4, c_6]⟩, by rw [hU]; exact hP, hD⟩, hS.F hU⟩) hS.2.2 d_Md_fits_63
      · 
        exact absurd c_6 (by decide)
    · 
      refine lv_iload_n hx hb d_Md_fits_24 rfl (lv_at hl 2 rfl) ?_
      refine lv_iconst (v := 1) hx hb d_Md_fits_25 (by decide) ?_
      refine lv_aload_n hx hb d_Md_fits_26 rfl (lv_at hl 0 rfl) ?_
      refine va_get (D := D) (ci := 7) (v := .int (σ 8 0)) (C := R_Md) (T := F_Md) (N := 34) hx hb hts (fun w h => List.mem_cons_of_mem _ (i_Md w h)) hown hK.1 hP 0 (wMd_0 t a σ) rfl 8 (by decide) (hts (.fieldLink R_Md 113 "FlatBoxesModel" "parts" "I") (List.mem_cons_of_mem _ (gIn k_674 (by decide +kernel)))) (fun _ h9 => h9) rfl d_Md_fits_27 ?_
      refine lv_topi (fun v_7 e_7 => ?_)
      obtain rfl : v_7 = nI np := e_7.trans hN
      refine lv_ishl hx hb d_Md_fits_30 ?_
      refine lv_icmp_lt (tgt := 38) hx hb d_Md_fits_31 (by decide) (fun c_8 => ?_) (fun c_8 => ?_)
      · 
        refine lv_iconst (v := 0) hx hb d_Md_fits_38 (by decide) ?_
        refine va_put (D := D) (ci := 7) (v := .int 0) (ty := .int) (C := R_Md) (T := F_Md) (N := 34) hx hb hts (fun w h => List.mem_cons_of_mem _ (i_Md w h)) t_Md t_Md_ok n_Md hown hK.1 hP hD hS 0 (wMd_0 t a σ) rfl 0 (by decide) (hts (.fieldLink R_Md 93 "FlatBoxesModel" "code" "I") (List.mem_cons_of_mem _ (gIn k_666 (by decide +kernel)))) (fun _ h9 => h9) rfl (by decide +kernel) rfl rfl (Nat.le_of_ble_eq_true rfl) d_Md_fits_39 (fun H locs hP hD hS => ?_)
        have hP : va_P D gCl (wMd t a (gSt σ 0 0 0)) H := hP
        have hD : va_D A (wMd t a (gSt σ 0 0 0)) := hD
        refine lv_aload_n hx hb d_Md_fits_42 rfl (lv_at hl 0 rfl) ?_
        refine va_get (D := D) (ci := 7) (v := .int ((gSt σ 0 0 0) 0 0)) (C := R_Md) (T := F_Md) (N := 34) hx hb hts (fun w h => List.mem_cons_of_mem _ (i_Md w h)) hown hK.1 hP 0 (wMd_0 t a (gSt σ 0 0 0)) rfl 0 (by decide) (hts (.fieldLink R_Md 93 "FlatBoxesModel" "code" "I") (List.mem_cons_of_mem _ (gIn k_666 (by decide +kernel)))) (fun _ h9 => h9) rfl d_Md_fits_43 ?_
        refine lv_topi (fun v_9 e_9 => ?_)
        obtain rfl : v_9 = 0 := e_9.trans (rfl)
        refine lv_if_ne (tgt := 62) hx hb d_Md_fits_46 (by decide) (fun c_10 => ?_) (fun c_10 => ?_)
        · 
          exact absurd c_10 (by decide)
        · 
          have hcd : mFitsCode nc np carton set = 0 := by simp [mFitsCode, c_3, c_4, c_8, c_10]
          obtain ⟨cc, hcc, rfl⟩ := mIn_nat (n := nc) (by omega) c_3
          refine lv_aload_n hx hb d_Md_fits_49 rfl (lv_at hl 0 rfl) ?_
          refine lv_iload_n hx hb d_Md_fits_50 rfl (lv_at hl 2 rfl) ?_
          refine lv_iload_n hx hb d_Md_fits_51 rfl (lv_at hl 1 rfl) ?_
          refine g_vi (k := 2) (As := [.int set, .int (nI cc)]) (rest := []) (own := R_Md) (C := R_Md) (index := 135) ⟨hx, hb, hml, hown, hts⟩ (c_Md_pack l D t a (gSt σ 0 0 0) set cc np ord hN hN8 (by omega) hord) (gg_Md_135 _) (by decide +kernel) ⟨Nat.le_of_ble_eq_true rfl, Nat.le_of_ble_eq_true rfl⟩ rfl (va_recv hK.1 hP (ci := 7) (q0 := 0) rfl (wMd_0 t a (gSt σ 0 0 0))) hK hP hD hS hl.1 rfl (Nat.le_of_ble_eq_true rfl) ⟨Nat.zero_le _, Nat.zero_le _⟩ d_Md_fits_52 (fun r_11 u_11 H locs q_11 hP hD hS => ?_)
          obtain ⟨rfl, hu_11⟩ := q_11
          rw [hu_11] at hP hD
          refine lv_if_eq (tgt := 62) hx hb d_Md_fits_55 (by decide) (fun c_12 => ?_) (fun c_12 => ?_)
          · 
            refine lv_iconst (v := 0) hx hb d_Md_fits_62 (by decide) ?_
            exact W.zret (v := 0) (ty := .boolean) hx hb hr (rfl) (fun U hU hW => ⟨⟨0, (mPk (gSt σ 0 0 0) ord set cc np).1, rfl, by exact ⟨by rw [mFitsR, if_pos hcd, mFitsX, nI_clamp (show cc < 2 ^ 31 by omega)]; exact Eq.symm (by assumption), by rw [mFitsU, if_pos hcd, mFitsX, nI_clamp (show cc < 2 ^ 31 by omega)]⟩, by rw [hU]; exact hP, hD⟩, hS.F hU⟩) hS.2.2 d_Md_fits_63
          · 
            refine lv_iconst (v := 1) hx hb d_Md_fits_58 (by decide) ?_
            refine lv_goto (tgt := 63) hx hb d_Md_fits_59 (by decide) ?_
            exact W.zret (v := 1) (ty := .boolean) hx hb hr (rfl) (fun U hU hW => ⟨⟨1, (mPk (gSt σ 0 0 0) ord set cc np).1, rfl, by exact ⟨by rw [mFitsR, if_pos hcd, mFitsX, nI_clamp (show cc < 2 ^ 31 by omega)]; exact gb1 (mPackR01 _ _) (by assumption), by rw [mFitsU, if_pos hcd, mFitsX, nI_clamp (show cc < 2 ^ 31 by omega)]⟩, by rw [hU]; exact hP, hD⟩, hS.F hU⟩) hS.2.2 d_Md_fits_63
      · 
        refine lv_iconst (v := 2) hx hb d_Md_fits_34 (by decide) ?_
        refine lv_goto (tgt := 39) hx hb d_Md_fits_35 (by decide) ?_
        refine va_put (D := D) (ci := 7) (v := .int 2) (ty := .int) (C := R_Md) (T := F_Md) (N := 34) hx hb hts (fun w h => List.mem_cons_of_mem _ (i_Md w h)) t_Md t_Md_ok n_Md hown hK.1 hP hD hS 0 (wMd_0 t a σ) rfl 0 (by decide) (hts (.fieldLink R_Md 93 "FlatBoxesModel" "code" "I") (List.mem_cons_of_mem _ (gIn k_666 (by decide +kernel)))) (fun _ h9 => h9) rfl (by decide +kernel) rfl rfl (Nat.le_of_ble_eq_true rfl) d_Md_fits_39 (fun H locs hP hD hS => ?_)
        have hP : va_P D gCl (wMd t a (gSt σ 0 0 2)) H := hP
        have hD : va_D A (wMd t a (gSt σ 0 0 2)) := hD
        refine lv_aload_n hx hb d_Md_fits_42 rfl (lv_at hl 0 rfl) ?_
        refine va_get (D := D) (ci := 7) (v := .int ((gSt σ 0 0 2) 0 0)) (C := R_Md) (T := F_Md) (N := 34) hx hb hts (fun w h => List.mem_cons_of_mem _ (i_Md w h)) hown hK.1 hP 0 (wMd_0 t a (gSt σ 0 0 2)) rfl 0 (by decide) (hts (.fieldLink R_Md 93 "FlatBoxesModel" "code" "I") (List.mem_cons_of_mem _ (gIn k_666 (by decide +kernel)))) (fun _ h9 => h9) rfl d_Md_fits_43 ?_
        refine lv_topi (fun v_13 e_13 => ?_)
        obtain rfl : v_13 = 2 := e_13.trans (rfl)
        refine lv_if_ne (tgt := 62) hx hb d_Md_fits_46 (by decide) (fun c_14 => ?_) (fun c_14 => ?_)
        · 
          refine lv_iconst (v := 0) hx hb d_Md_fits_62 (by decide) ?_
          exact W.zret (v := 0) (ty := .boolean) hx hb hr (rfl) (fun U hU hW => ⟨⟨0, gSt σ 0 0 2, rfl, by exact ⟨by simp [mFitsR, mFitsCode, c_3, c_4, c_8, c_14], by simp [mFitsU, mFitsCode, c_3, c_4, c_8, c_14]⟩, by rw [hU]; exact hP, hD⟩, hS.F hU⟩) hS.2.2 d_Md_fits_63
        · 
          exact absurd c_14 (by decide)
  · 
    refine lv_iconst (v := 1) hx hb d_Md_fits_15 (by decide) ?_
    refine lv_goto (tgt := 39) hx hb d_Md_fits_16 (by decide) ?_
    refine va_put (D := D) (ci := 7) (v := .int 1) (ty := .int) (C := R_Md) (T := F_Md) (N := 34) hx hb hts (fun w h => List.mem_cons_of_mem _ (i_Md w h)) t_Md t_Md_ok n_Md hown hK.1 hP hD hS 0 (wMd_0 t a σ) rfl 0 (by decide) (hts (.fieldLink R_Md 93 "FlatBoxesModel" "code" "I") (List.mem_cons_of_mem _ (gIn k_666 (by decide +kernel)))) (fun _ h9 => h9) rfl (by decide +kernel) rfl rfl (Nat.le_of_ble_eq_true rfl) d_Md_fits_39 (fun H locs hP hD hS => ?_)
    have hP : va_P D gCl (wMd t a (gSt σ 0 0 1)) H := hP
    have hD : va_D A (wMd t a (gSt σ 0 0 1)) := hD
    refine lv_aload_n hx hb d_Md_fits_42 rfl (lv_at hl 0 rfl) ?_
    refine va_get (D := D) (ci := 7) (v := .int ((gSt σ 0 0 1) 0 0)) (C := R_Md) (T := F_Md) (N := 34) hx hb hts (fun w h => List.mem_cons_of_mem _ (i_Md w h)) hown hK.1 hP 0 (wMd_0 t a (gSt σ 0 0 1)) rfl 0 (by decide) (hts (.fieldLink R_Md 93 "FlatBoxesModel" "code" "I") (List.mem_cons_of_mem _ (gIn k_666 (by decide +kernel)))) (fun _ h9 => h9) rfl d_Md_fits_43 ?_
    refine lv_topi (fun v_15 e_15 => ?_)
    obtain rfl : v_15 = 1 := e_15.trans (rfl)
    refine lv_if_ne (tgt := 62) hx hb d_Md_fits_46 (by decide) (fun c_16 => ?_) (fun c_16 => ?_)
    · 
      refine lv_iconst (v := 0) hx hb d_Md_fits_62 (by decide) ?_
      exact W.zret (v := 0) (ty := .boolean) hx hb hr (rfl) (fun U hU hW => ⟨⟨0, gSt σ 0 0 1, rfl, by exact ⟨by simp [mFitsR, mFitsCode, c_3, c_16], by simp [mFitsU, mFitsCode, c_3, c_16]⟩, by rw [hU]; exact hP, hD⟩, hS.F hU⟩) hS.2.2 d_Md_fits_63
    · 
      exact absurd c_16 (by decide)
end
section
theorem mFB_fix (σ : Nat → Nat → Int32) (ord : Nat → Nat) (set : Int32) (np : Nat) {i : Nat} (h : i < 15 ∨ 22 < i) : ∀ c, (mFB σ ord set np c).1 i = σ i
  | 0 => rfl
  | c + 1 => (mPk_fix _ _ _ _ h _).trans (mFB_fix σ ord set np h c)


set_option maxHeartbeats 4000000 in
set_option maxRecDepth 100000 in
theorem c_Md_findBoxes (l : Launch) (D : va_G) (t : Nat → ClassId) (a : Nat → Nat) (σ : Nat → Nat → Int32) (nc np NN : Nat) (ord : Nat → Nat) (hC : σ 2 0 = nI nc) (hC4 : nc ≤ 4) (hN : σ 8 0 = nI np) (hN8 : np ≤ 8) (hNN : (1 : Int32) <<< (nI np &&& 31) = nI NN) (hN1 : 1 ≤ NN) (hN2 : NN ≤ 256) (hord : ∀ k, k < np → ord k < np ∧ mBT (σ 11) np (nI k) np 0 = nI (ord k)) : gMv l D t y_Md_findBoxes b_Md_findBoxes 4 2 [.ref (a 0)] (wMd t a σ) (wMd t a) (fun u => u = mFBs σ ord nc np (NN - 1)) := by
  intro A
  refine Met.ofW (cc := b_Md_findBoxes) (maxL := 4) (ret := none) (by decide) rfl ?_
  intro p e s m args below meth c s₁ B hml hv
  obtain ⟨rfl, hK, hP, hD⟩ := hv
  have hx := B.exec
  have hb := B.bytes
  have hr := B.returns
  have hts := atoms_spec (ws := .code y_Md_findBoxes b_Md_findBoxes 4 none :: gBig) B.pre
  have hown : s.vm.findClass R_Md = some m.cls := findClass_of_methodNamed B.named
  have hlocks := B.notSynchronized
  have hS : va_S A s.heap s.heap [] := va_S.rf
  have hl := lv_entry ([.ref (a 0)]) (n := 4) (Nat.le_of_ble_eq_true rfl)
  rw [lg_entry_eq]
  generalize (lg_sl ([.ref (a 0)]) ++ List.replicate (4 - (lg_sl ([.ref (a 0)])).length) Slot.unset).toArray = ls at hl ⊢
  have hl : lv_has ls 4 [(0, .ref (a 0))] := hl
  show gGov l p e s m below meth c D t A 2 [.ref (a 0)] (wMd t a) (fun u => u = mFBs σ ord nc np (NN - 1)) s.heap [] (F0 m 0 ls [])
  have cut_16 : ∀ (n : Nat) (c1 : Nat) (sv : Int32) (best : Int32) (τ0 : Nat → Nat → Int32) (τ : Nat → Nat → Int32) (H : Heap) (locs : List Loc) (ls : Array Slot), (c1 ≤ nc) → (nc + 1 ≤ c1 + n) → (mFB τ0 ord sv np c1 = (τ, best)) → (best < 0 ∨ ∃ b, b < c1 ∧ best = nI b) → (∀ i, (i < 15 ∨ 22 < i) → τ i = τ0 i) → (τ0 2 0 = nI nc) → (τ0 8 0 = nI np) → (τ0 11 = σ 11) → (∀ (H : Heap) (locs : List Loc) (ls : Array Slot), va_P D gCl (wMd t a ((mFB τ0 ord sv np nc).1)) H → va_D A (wMd t a ((mFB τ0 ord sv np nc).1)) → va_S A s.heap H locs → lv_has ls 4 [(0, .ref (a 0)), (1, .int sv), (2, .int ((mFB τ0 ord sv np nc).2))] → gGov l p e s m below meth c D t A 2 [.ref (a 0)] (wMd t a) (fun u => u = mFBs σ ord nc np (NN - 1)) H locs (F0 m 64 ls [])) → va_P D gCl (wMd t a τ) H → va_D A (wMd t a τ) → va_S A s.heap H locs → lv_has ls 4 [(0, .ref (a 0)), (1, .int sv), (2, .int best), (3, .int (nI c1))] → gGov l p e s m below meth c D t A 2 [.ref (a 0)] (wMd t a) (fun u => u = mFBs σ ord nc np (NN - 1)) H locs (F0 m 16 ls []) := by
    intro n
    induction n with
    | zero =>
      intro c1 sv best τ0 τ H locs ls hc1 hf hs hbst hfix h02 h08 h011 hX hP hD hS hl
      exact absurd hf (by omega)
    | succ n ih =>
      intro c1 sv best τ0 τ H locs ls hc1 hf hs hbst hfix h02 h08 h011 hX hP hD hS hl
      refine lv_iload_n hx hb d_Md_findBoxes_16 rfl (lv_at hl 3 rfl) ?_
      refine lv_aload_n hx hb d_Md_findBoxes_17 rfl (lv_at hl 0 rfl) ?_
      refine va_get (D := D) (ci := 7) (v := .int (τ 2 0)) (C := R_Md) (T := F_Md) (N := 34) hx hb hts (fun w h => List.mem_cons_of_mem _ (i_Md w h)) hown hK.1 hP 0 (wMd_0 t a τ) rfl 2 (by decide) (hts (.fieldLink R_Md 105 "FlatBoxesModel" "cartons" "I") (List.mem_cons_of_mem _ (gIn k_668 (by decide +kernel)))) (fun _ h9 => h9) rfl d_Md_findBoxes_18 ?_
      refine lv_topi (fun v_1 e_1 => ?_)
      obtain rfl : v_1 = nI nc := e_1.trans ((congrFun (hfix 2 (by omega)) 0).trans h02)
      refine lv_icmp_ge (tgt := 64) hx hb d_Md_findBoxes_21 (by decide) (fun c_2 => ?_) (fun c_2 => ?_)
      · 
        have h_2 : nc ≤ c1 := (nI_leI (a := nc) (b := c1) (by omega) (by omega)).mp c_2
        obtain rfl : c1 = nc := by omega
        obtain rfl : τ = (mFB τ0 ord sv np c1).1 := by rw [hs]
        obtain rfl : best = (mFB τ0 ord sv np c1).2 := by rw [hs]
        exact hX _ _ _  hP hD hS (lv_sub hl [0, 1, 2] rfl)
      · 
        have h_2 : ¬ nc ≤ c1 := fun q9 => c_2 ((nI_leI (a := nc) (b := c1) (by omega) (by omega)).mpr q9)
        refine lv_aload_n hx hb d_Md_findBoxes_24 rfl (lv_at hl 0 rfl) ?_
        refine lv_iload_n hx hb d_Md_findBoxes_25 rfl (lv_at hl 1 rfl) ?_
        refine lv_iload_n hx hb d_Md_findBoxes_26 rfl (lv_at hl 3 rfl) ?_
        refine g_vi (k := 2) (As := [.int sv, .int (nI c1)]) (rest := []) (own := R_Md) (C := R_Md) (index := 135) ⟨hx, hb, hml, hown, hts⟩ (c_Md_pack l D t a τ sv c1 np ord ((congrFun (hfix 8 (by omega)) 0).trans h08) hN8 (by omega) (fun k hk => by rw [hfix 11 (by omega), h011]; exact hord k hk)) (gg_Md_135 _) (by decide +kernel) ⟨Nat.le_of_ble_eq_true rfl, Nat.le_of_ble_eq_true rfl⟩ rfl (va_recv hK.1 hP (ci := 7) (q0 := 0) rfl (wMd_0 t a τ)) hK hP hD hS hl.1 rfl (Nat.le_of_ble_eq_true rfl) ⟨Nat.zero_le _, Nat.zero_le _⟩ d_Md_findBoxes_27 (fun r_3 u_3 H locs q_3 hP hD hS => ?_)
        obtain ⟨rfl, hu_3⟩ := q_3
        rw [hu_3] at hP hD
        have h6 : (mPk τ ord sv c1 np).1 6 = τ0 6 := (mPk_fix _ _ _ _ (by omega) _).trans (hfix 6 (by omega))
        refine lv_if_eq (tgt := 56) hx hb d_Md_findBoxes_30 (by decide) (fun c_4 => ?_) (fun c_4 => ?_)
        · 
          refine lv_iload_n hx hb d_Md_findBoxes_56 rfl (lv_at hl 2 rfl) ?_
          refine lv_istore_n (lv' := [(2, .int best), (0, .ref (a 0)), (1, .int sv), (3, .int (nI c1))]) hx hb d_Md_findBoxes_57 rfl hl (by decide) rfl (fun ls hl => ?_)
          refine lv_iinc (v := nI (c1 + 1)) (lv' := [(3, .int (nI (c1 + 1))), (2, .int best), (0, .ref (a 0)), (1, .int sv)]) hx hb d_Md_findBoxes_58 hl (k := 3) rfl (nI_1 c1) (by decide) rfl (fun ls hl => ?_)
          refine lv_goto (tgt := 16) hx hb d_Md_findBoxes_61 (by decide) ?_
          exact ih (c1 + 1) sv best τ0 ((mPk τ ord sv c1 np).1) _ _ _ (by omega) (by omega) (by first | (simp [mFB, hs, c_2, h_2, c_4]; done) | (simp [mFB, hs, hb2, nI_clamp (show b < 2 ^ 31 by omega), c_2, h_2, c_4]; rw [hb2] at *; simp_all; done) | (have hb3 : best.toNatClampNeg = b := (by rw [hb2]; exact nI_clamp (by omega)); simp [mFB, hs, hb3, c_2, h_2, c_4]; done)) (by first | exact Or.inr ⟨c1, by omega, rfl⟩ | exact hbst.imp id (fun ⟨b, h1, h2⟩ => ⟨b, by omega, h2⟩)) (fun i hi => (mPk_fix _ _ _ _ hi _).trans (hfix i hi)) (h02) (h08) (h011) hX hP hD hS (lv_sub hl [2, 3, 1, 0] rfl)
        · 
          refine lv_iload_n hx hb d_Md_findBoxes_33 rfl (lv_at hl 2 rfl) ?_
          refine lv_if_lt (tgt := 52) hx hb d_Md_findBoxes_34 (by decide) (fun c_5 => ?_) (fun c_5 => ?_)
          · 
            refine lv_iload_n hx hb d_Md_findBoxes_52 rfl (lv_at hl 3 rfl) ?_
            refine lv_goto (tgt := 57) hx hb d_Md_findBoxes_53 (by decide) ?_
            refine lv_istore_n (lv' := [(2, .int (nI c1)), (0, .ref (a 0)), (1, .int sv), (3, .int (nI c1))]) hx hb d_Md_findBoxes_57 rfl hl (by decide) rfl (fun ls hl => ?_)
            refine lv_iinc (v := nI (c1 + 1)) (lv' := [(3, .int (nI (c1 + 1))), (2, .int (nI c1)), (0, .ref (a 0)), (1, .int sv)]) hx hb d_Md_findBoxes_58 hl (k := 3) rfl (nI_1 c1) (by decide) rfl (fun ls hl => ?_)
            refine lv_goto (tgt := 16) hx hb d_Md_findBoxes_61 (by decide) ?_
            exact ih (c1 + 1) sv (nI c1) τ0 ((mPk τ ord sv c1 np).1) _ _ _ (by omega) (by omega) (by first | (simp [mFB, hs, c_2, h_2, c_4, c_5]; done) | (simp [mFB, hs, hb2, nI_clamp (show b < 2 ^ 31 by omega), c_2, h_2, c_4, c_5]; rw [hb2] at *; simp_all; done) | (have hb3 : best.toNatClampNeg = b := (by rw [hb2]; exact nI_clamp (by omega)); simp [mFB, hs, hb3, c_2, h_2, c_4, c_5]; done)) (by first | exact Or.inr ⟨c1, by omega, rfl⟩ | exact hbst.imp id (fun ⟨b, h1, h2⟩ => ⟨b, by omega, h2⟩)) (fun i hi => (mPk_fix _ _ _ _ hi _).trans (hfix i hi)) (h02) (h08) (h011) hX hP hD hS (lv_sub hl [2, 3, 1, 0] rfl)
          · 
            obtain ⟨b, hb1, hb2⟩ := hbst.resolve_left c_5
            refine lv_aload_n hx hb d_Md_findBoxes_37 rfl (lv_at hl 0 rfl) ?_
            refine va_get (D := D) (ci := 7) (v := .ref (a 6)) (C := R_Md) (T := F_Md) (N := 34) hx hb hts (fun w h => List.mem_cons_of_mem _ (i_Md w h)) hown hK.1 hP 0 (wMd_0 t a ((mPk τ ord sv c1 np).1)) rfl 6 (by decide) (hts (.fieldLink R_Md 19 "FlatBoxesModel" "cents" "[I") (List.mem_cons_of_mem _ (gIn k_672 (by decide +kernel)))) (fun _ h9 => h9) rfl d_Md_findBoxes_38 ?_
            refine lv_iload_n hx hb d_Md_findBoxes_41 rfl (lv_at hl 3 rfl) ?_
            refine g_iald hx hb hK.1 hP 4 0 (wMd_6 t a ((mPk τ ord sv c1 np).1)) rfl c1 (rfl) (by omega) (by decide) d_Md_findBoxes_42 ?_
            refine lv_topi (fun v_6 e_6 => ?_)
            obtain rfl : v_6 = τ0 6 c1 := e_6.trans (congrFun h6 c1)
            refine lv_aload_n hx hb d_Md_findBoxes_43 rfl (lv_at hl 0 rfl) ?_
            refine va_get (D := D) (ci := 7) (v := .ref (a 6)) (C := R_Md) (T := F_Md) (N := 34) hx hb hts (fun w h => List.mem_cons_of_mem _ (i_Md w h)) hown hK.1 hP 0 (wMd_0 t a ((mPk τ ord sv c1 np).1)) rfl 6 (by decide) (hts (.fieldLink R_Md 19 "FlatBoxesModel" "cents" "[I") (List.mem_cons_of_mem _ (gIn k_672 (by decide +kernel)))) (fun _ h9 => h9) rfl d_Md_findBoxes_44 ?_
            refine lv_iload_n hx hb d_Md_findBoxes_47 rfl (lv_at hl 2 rfl) ?_
            refine g_iald hx hb hK.1 hP 4 0 (wMd_6 t a ((mPk τ ord sv c1 np).1)) rfl b (hb2) (by omega) (by decide) d_Md_findBoxes_48 ?_
            refine lv_topi (fun v_7 e_7 => ?_)
            obtain rfl : v_7 = τ0 6 b := e_7.trans (congrFun h6 b)
            refine lv_icmp_ge (tgt := 56) hx hb d_Md_findBoxes_49 (by decide) (fun c_8 => ?_) (fun c_8 => ?_)
            · 
              refine lv_iload_n hx hb d_Md_findBoxes_56 rfl (lv_at hl 2 rfl) ?_
              refine lv_istore_n (lv' := [(2, .int best), (0, .ref (a 0)), (1, .int sv), (3, .int (nI c1))]) hx hb d_Md_findBoxes_57 rfl hl (by decide) rfl (fun ls hl => ?_)
              refine lv_iinc (v := nI (c1 + 1)) (lv' := [(3, .int (nI (c1 + 1))), (2, .int best), (0, .ref (a 0)), (1, .int sv)]) hx hb d_Md_findBoxes_58 hl (k := 3) rfl (nI_1 c1) (by decide) rfl (fun ls hl => ?_)
              refine lv_goto (tgt := 16) hx hb d_Md_findBoxes_61 (by decide) ?_
              exact ih (c1 + 1) sv best τ0 ((mPk τ ord sv c1 np).1) _ _ _ (by omega) (by omega) (by first | (simp [mFB, hs, c_2, h_2, c_4, c_5, c_8]; done) | (simp [mFB, hs, hb2, nI_clamp (show b < 2 ^ 31 by omega), c_2, h_2, c_4, c_5, c_8]; rw [hb2] at *; simp_all; done) | (have hb3 : best.toNatClampNeg = b := (by rw [hb2]; exact nI_clamp (by omega)); simp [mFB, hs, hb3, c_2, h_2, c_4, c_5, c_8]; done)) (by first | exact Or.inr ⟨c1, by omega, rfl⟩ | exact hbst.imp id (fun ⟨b, h1, h2⟩ => ⟨b, by omega, h2⟩)) (fun i hi => (mPk_fix _ _ _ _ hi _).trans (hfix i hi)) (h02) (h08) (h011) hX hP hD hS (lv_sub hl [2, 3, 1, 0] rfl)
            · 
              refine lv_iload_n hx hb d_Md_findBoxes_52 rfl (lv_at hl 3 rfl) ?_
              refine lv_goto (tgt := 57) hx hb d_Md_findBoxes_53 (by decide) ?_
              refine lv_istore_n (lv' := [(2, .int (nI c1)), (0, .ref (a 0)), (1, .int sv), (3, .int (nI c1))]) hx hb d_Md_findBoxes_57 rfl hl (by decide) rfl (fun ls hl => ?_)
              refine lv_iinc (v := nI (c1 + 1)) (lv' := [(3, .int (nI (c1 + 1))), (2, .int (nI c1)), (0, .ref (a 0)), (1, .int sv)]) hx hb d_Md_findBoxes_58 hl (k := 3) rfl (nI_1 c1) (by decide) rfl (fun ls hl => ?_)
              refine lv_goto (tgt := 16) hx hb d_Md_findBoxes_61 (by decide) ?_
              exact ih (c1 + 1) sv (nI c1) τ0 ((mPk τ ord sv c1 np).1) _ _ _ (by omega) (by omega) (by first | (simp [mFB, hs, c_2, h_2, c_4, c_5, c_8]; done) | (simp [mFB, hs, hb2, nI_clamp (show b < 2 ^ 31 by omega), c_2, h_2, c_4, c_5, c_8]; rw [hb2] at *; simp_all; done) | (have hb3 : best.toNatClampNeg = b := (by rw [hb2]; exact nI_clamp (by omega)); simp [mFB, hs, hb3, c_2, h_2, c_4, c_5, c_8]; done)) (by first | exact Or.inr ⟨c1, by omega, rfl⟩ | exact hbst.imp id (fun ⟨b, h1, h2⟩ => ⟨b, by omega, h2⟩)) (fun i hi => (mPk_fix _ _ _ _ hi _).trans (hfix i hi)) (h02) (h08) (h011) hX hP hD hS (lv_sub hl [2, 3, 1, 0] rfl)
  have cut_2 : ∀ (n : Nat) (j : Nat) (τ : Nat → Nat → Int32) (H : Heap) (locs : List Loc) (ls : Array Slot), (j + 1 ≤ NN) → (NN ≤ j + n) → (mFBs σ ord nc np j = τ) → (∀ i, (i < 15 ∨ 23 < i) → τ i = σ i) → va_P D gCl (wMd t a τ) H → va_D A (wMd t a τ) → va_S A s.heap H locs → lv_has ls 4 [(0, .ref (a 0)), (1, .int (nI (j + 1)))] → gGov l p e s m below meth c D t A 2 [.ref (a 0)] (wMd t a) (fun u => u = mFBs σ ord nc np (NN - 1)) H locs (F0 m 2 ls []) := by
    intro n
    induction n with
    | zero =>
      intro j τ H locs ls hj hf hs hfix hP hD hS hl
      exact absurd hf (by omega)
    | succ n ih =>
      intro j τ H locs ls hj hf hs hfix hP hD hS hl
      refine lv_iload_n hx hb d_Md_findBoxes_2 rfl (lv_at hl 1 rfl) ?_
      refine lv_iconst (v := 1) hx hb d_Md_findBoxes_3 (by decide) ?_
      refine lv_aload_n hx hb d_Md_findBoxes_4 rfl (lv_at hl 0 rfl) ?_
      refine va_get (D := D) (ci := 7) (v := .int (τ 8 0)) (C := R_Md) (T := F_Md) (N := 34) hx hb hts (fun w h => List.mem_cons_of_mem _ (i_Md w h)) hown hK.1 hP 0 (wMd_0 t a τ) rfl 8 (by decide) (hts (.fieldLink R_Md 113 "FlatBoxesModel" "parts" "I") (List.mem_cons_of_mem _ (gIn k_674 (by decide +kernel)))) (fun _ h9 => h9) rfl d_Md_findBoxes_5 ?_
      refine lv_topi (fun v_9 e_9 => ?_)
      obtain rfl : v_9 = nI np := e_9.trans ((congrFun (hfix 8 (by omega)) 0).trans hN)
      refine lv_ishl hx hb d_Md_findBoxes_8 ?_
      refine lv_topi (fun v_10 e_10 => ?_)
      obtain rfl : v_10 = nI NN := e_10.trans (hNN)
      refine lv_icmp_ge (tgt := 77) hx hb d_Md_findBoxes_9 (by decide) (fun c_11 => ?_) (fun c_11 => ?_)
      · 
        have h_11 : NN ≤ j + 1 := (nI_leI (a := NN) (b := j + 1) (by omega) (by omega)).mp c_11
        exact W.vret hx hb hr (fun U hU hW => ⟨⟨τ, rfl, by obtain rfl : j = NN - 1 := (by omega); exact hs.symm, by rw [hU]; exact hP, hD⟩, hS.F hU⟩) hS.2.2 d_Md_findBoxes_77
      · 
        have h_11 : ¬ NN ≤ j + 1 := fun q9 => c_11 ((nI_leI (a := NN) (b := j + 1) (by omega) (by omega)).mpr q9)
        refine lv_iconst (v := -1) hx hb d_Md_findBoxes_12 (by decide) ?_
        refine lv_istore_n (lv' := [(2, .int (-1)), (0, .ref (a 0)), (1, .int (nI (j + 1)))]) hx hb d_Md_findBoxes_13 rfl hl (by decide) rfl (fun ls hl => ?_)
        refine lv_iconst (v := 0) hx hb d_Md_findBoxes_14 (by decide) ?_
        refine lv_istore_n (lv' := [(3, .int 0), (2, .int (-1)), (0, .ref (a 0)), (1, .int (nI (j + 1)))]) hx hb d_Md_findBoxes_15 rfl hl (by decide) rfl (fun ls hl => ?_)
        refine cut_16 (nc + 1) 0 (nI (j + 1)) (-1) τ τ _ _ _ (by omega) (by omega) (rfl) (Or.inl (by decide)) (fun i hi => rfl) (((congrFun (hfix 2 (by omega)) 0).trans hC)) (((congrFun (hfix 8 (by omega)) 0).trans hN)) (hfix 11 (by omega)) (fun H locs ls  hP hD hS hl => ?_) hP hD hS (lv_sub hl [2, 3, 1, 0] rfl)
        refine lv_aload_n hx hb d_Md_findBoxes_64 rfl (lv_at hl 0 rfl) ?_
        refine va_get (D := D) (ci := 7) (v := .ref (a 23)) (C := R_Md) (T := F_Md) (N := 34) hx hb hts (fun w h => List.mem_cons_of_mem _ (i_Md w h)) hown hK.1 hP 0 (wMd_0 t a ((mFB τ ord (nI (j + 1)) np nc).1)) rfl 23 (by decide) (hts (.fieldLink R_Md 65 "FlatBoxesModel" "boxOf" "[I") (List.mem_cons_of_mem _ (gIn k_689 (by decide +kernel)))) (fun _ h9 => h9) rfl d_Md_findBoxes_65 ?_
        refine lv_iload_n hx hb d_Md_findBoxes_68 rfl (lv_at hl 1 rfl) ?_
        refine lv_iload_n hx hb d_Md_findBoxes_69 rfl (lv_at hl 2 rfl) ?_
        refine g_iast hx hb hK.1 hP hD hS 19 0 (wMd_23 t a ((mFB τ ord (nI (j + 1)) np nc).1)) rfl (j + 1) (rfl) (by omega) (by decide) (w' := wMd t a (gSt ((mFB τ ord (nI (j + 1)) np nc).1) 23 (j + 1) ((mFB τ ord (nI (j + 1)) np nc).2))) (sMd_23 t a ((mFB τ ord (nI (j + 1)) np nc).1) (j + 1) ((mFB τ ord (nI (j + 1)) np nc).2)) d_Md_findBoxes_70 (fun H locs hP hD hS => ?_)
        refine lv_iinc (v := nI (j + 1 + 1)) (lv' := [(1, .int (nI (j + 1 + 1))), (0, .ref (a 0)), (2, .int ((mFB τ ord (nI (j + 1)) np nc).2))]) hx hb d_Md_findBoxes_71 hl (k := 1) rfl (nI_1 (j + 1)) (by decide) rfl (fun ls hl => ?_)
        refine lv_goto (tgt := 2) hx hb d_Md_findBoxes_74 (by decide) ?_
        exact ih (j + 1) (gSt ((mFB τ ord (nI (j + 1)) np nc).1) 23 (j + 1) ((mFB τ ord (nI (j + 1)) np nc).2)) _ _ _ (by omega) (by omega) (by rw [← hs]; rfl) (fun i hi => (gSt_ne _ _ _ _ (by omega)).trans ((mFB_fix _ _ _ _ (by omega) _).trans (hfix i hi))) hP hD hS (lv_sub hl [1, 0] rfl)
  refine lv_iconst (v := 1) hx hb d_Md_findBoxes_0 (by decide) ?_
  refine lv_istore_n (lv' := [(1, .int 1), (0, .ref (a 0))]) hx hb d_Md_findBoxes_1 rfl hl (by decide) rfl (fun ls hl => ?_)
  exact cut_2 (NN) 0 σ _ _ _ (by omega) (by omega) (rfl) (fun i hi => rfl) hP hD hS (lv_sub hl [1, 0] rfl)
end
section
def mZero (σ : Nat → Nat → Int32) : Nat → (Nat → Nat → Int32)
  | 0 => σ
  | k + 1 => gSt (mZero σ k) 28 k 0
theorem mZero_fix (σ : Nat → Nat → Int32) {i : Nat} (h : i ≠ 28) : ∀ k, mZero σ k i = σ i
  | 0 => rfl
  | k + 1 => (gSt_ne _ _ _ _ h).trans (mZero_fix σ h k)
def mSets (σ : Nat → Nat → Int32) (rho : Nat → Nat) : Nat → (Nat → Nat → Int32) × Nat
  | 0 => (mZero σ 8, 0)
  | q + 1 => (gSt (mSets σ rho q).1 28 (rho q) ((mSets σ rho q).1 28 (rho q) ||| ((1 : Int32) <<< (nI q &&& 31))), if rho q < (mSets σ rho q).2 then (mSets σ rho q).2 else rho q + 1)
def mCost (σ : Nat → Nat → Int32) (sx : Nat → Nat) : Nat → Nat → Int32 → Int32
  | 0, _, acc => acc
  | d + 1, b, acc => if 0 ≤ σ 23 (sx b) then mCost σ sx d (b + 1) (acc + σ 6 (σ 23 (sx b)).toNatClampNeg) else -1


set_option maxHeartbeats 4000000 in
set_option maxRecDepth 100000 in
theorem c_Md_setsOf_t (l : Launch) (D : va_G) (t : Nat → ClassId) (a : Nat → Nat) (σ : Nat → Nat → Int32) (np : Nat) (rho : Nat → Nat) (hN : σ 8 0 = nI np) (hN8 : np ≤ 8) (hrow : ∀ q, q < np → σ 27 q = nI (rho q) ∧ rho q < 8) : gMi l D t y_Md_setsOf b_Md_setsOf 4 (some .int) 0 [.ref (a 0), .ref (a 27)] (wMd t a σ) (wMd t a) (fun r u => r = nI (mSets σ rho np).2 ∧ u = (mSets σ rho np).1) := by
  intro A
  refine Met.ofW (cc := b_Md_setsOf) (maxL := 4) (ret := (some .int)) (by decide) rfl ?_
  intro p e s m args below meth c s₁ B hml hv
  obtain ⟨rfl, hK, hP, hD⟩ := hv
  have hx := B.exec
  have hb := B.bytes
  have hr := B.returns
  have hts := atoms_spec (ws := .code y_Md_setsOf b_Md_setsOf 4 (some .int) :: gBig) B.pre
  have hown : s.vm.findClass R_Md = some m.cls := findClass_of_methodNamed B.named
  have hlocks := B.notSynchronized
  have hS : va_S A s.heap s.heap [] := va_S.rf
  have hl := lv_entry ([.ref (a 0), .ref (a 27)]) (n := 4) (Nat.le_of_ble_eq_true rfl)
  rw [lg_entry_eq]
  generalize (lg_sl ([.ref (a 0), .ref (a 27)]) ++ List.replicate (4 - (lg_sl ([.ref (a 0), .ref (a 27)])).length) Slot.unset).toArray = ls at hl ⊢
  have hl : lv_has ls 4 [(0, .ref (a 0)), (1, .ref (a 27))] := hl
  show gGo l p e s m below meth c D t A 0 [.ref (a 0), .ref (a 27)] (wMd t a) (fun r u => r = nI (mSets σ rho np).2 ∧ u = (mSets σ rho np).1) s.heap [] (F0 m 0 ls [])
  have cut_25 : ∀ (n : Nat) (q : Nat) (nn : Nat) (τ : Nat → Nat → Int32) (H : Heap) (locs : List Loc) (ls : Array Slot), (q ≤ np) → (np + 1 ≤ q + n) → (mSets σ rho q = (τ, nn)) → (nn ≤ 8) → (∀ i, i ≠ 28 → τ i = σ i) → va_P D gCl (wMd t a τ) H → va_D A (wMd t a τ) → va_S A s.heap H locs → lv_has ls 4 [(0, .ref (a 0)), (1, .ref (a 27)), (2, .int (nI nn)), (3, .int (nI q))] → gGo l p e s m below meth c D t A 0 [.ref (a 0), .ref (a 27)] (wMd t a) (fun r u => r = nI (mSets σ rho np).2 ∧ u = (mSets σ rho np).1) H locs (F0 m 25 ls []) := by
    intro n
    induction n with
    | zero =>
      intro q nn τ H locs ls hq hf hs hnn hfix hP hD hS hl
      exact absurd hf (by omega)
    | succ n ih =>
      intro q nn τ H locs ls hq hf hs hnn hfix hP hD hS hl
      refine lv_iload_n hx hb d_Md_setsOf_25 rfl (lv_at hl 3 rfl) ?_
      refine lv_aload_n hx hb d_Md_setsOf_26 rfl (lv_at hl 0 rfl) ?_
      refine va_get (D := D) (ci := 7) (v := .int (τ 8 0)) (C := R_Md) (T := F_Md) (N := 34) hx hb hts (fun w h => List.mem_cons_of_mem _ (i_Md w h)) hown hK.1 hP 0 (wMd_0 t a τ) rfl 8 (by decide) (hts (.fieldLink R_Md 113 "FlatBoxesModel" "parts" "I") (List.mem_cons_of_mem _ (gIn k_674 (by decide +kernel)))) (fun _ h9 => h9) rfl d_Md_setsOf_27 ?_
      refine lv_topi (fun v_1 e_1 => ?_)
      obtain rfl : v_1 = nI np := e_1.trans ((congrFun (hfix 8 (by decide)) 0).trans hN)
      refine lv_icmp_ge (tgt := 70) hx hb d_Md_setsOf_30 (by decide) (fun c_2 => ?_) (fun c_2 => ?_)
      · 
        have h_2 : np ≤ q := (nI_leI (a := np) (b := q) (by omega) (by omega)).mp c_2
        refine lv_iload_n hx hb d_Md_setsOf_70 rfl (lv_at hl 2 rfl) ?_
        exact W.iret (v := nI nn) hx hb hr (fun U hU hW => ⟨⟨nI nn, τ, rfl, by obtain rfl : q = np := (by omega); exact ⟨by rw [hs], by rw [hs]⟩, by rw [hU]; exact hP, hD⟩, hS.F hU⟩) hS.2.2 d_Md_setsOf_71
      · 
        have h_2 : ¬ np ≤ q := fun q9 => c_2 ((nI_leI (a := np) (b := q) (by omega) (by omega)).mpr q9)
        refine lv_aload_n hx hb d_Md_setsOf_33 rfl (lv_at hl 0 rfl) ?_
        refine va_get (D := D) (ci := 7) (v := .ref (a 28)) (C := R_Md) (T := F_Md) (N := 34) hx hb hts (fun w h => List.mem_cons_of_mem _ (i_Md w h)) hown hK.1 hP 0 (wMd_0 t a τ) rfl 28 (by decide) (hts (.fieldLink R_Md 74 "FlatBoxesModel" "sets" "[I") (List.mem_cons_of_mem _ (gIn k_694 (by decide +kernel)))) (fun _ h9 => h9) rfl d_Md_setsOf_34 ?_
        refine lv_aload_n hx hb d_Md_setsOf_37 rfl (lv_at hl 1 rfl) ?_
        refine lv_iload_n hx hb d_Md_setsOf_38 rfl (lv_at hl 3 rfl) ?_
        refine g_iald hx hb hK.1 hP 21 0 (wMd_27 t a τ) rfl q (rfl) (by omega) (by decide) d_Md_setsOf_39 ?_
        refine lv_topi (fun v_3 e_3 => ?_)
        obtain rfl : v_3 = nI (rho q) := e_3.trans ((congrFun (hfix 27 (by decide)) q).trans (hrow q (by omega)).1)
        have hr8 := (hrow q (by omega)).2
        refine lv_dup2_11 hx hb d_Md_setsOf_40 rfl rfl ?_
        refine g_iald hx hb hK.1 hP 22 0 (wMd_28 t a τ) rfl (rho q) (rfl) (by omega) (by decide) d_Md_setsOf_41 ?_
        refine lv_iconst (v := 1) hx hb d_Md_setsOf_42 (by decide) ?_
        refine lv_iload_n hx hb d_Md_setsOf_43 rfl (lv_at hl 3 rfl) ?_
        refine lv_ishl hx hb d_Md_setsOf_44 ?_
        refine lv_ior hx hb d_Md_setsOf_45 ?_
        refine g_iast hx hb hK.1 hP hD hS 22 0 (wMd_28 t a τ) rfl (rho q) (rfl) (by omega) (by decide) (w' := wMd t a (gSt τ 28 (rho q) ((τ 28 (rho q)) ||| (1 <<< ((nI q) &&& 31))))) (sMd_28 t a τ (rho q) ((τ 28 (rho q)) ||| (1 <<< ((nI q) &&& 31)))) d_Md_setsOf_46 (fun H locs hP hD hS => ?_)
        refine lv_aload_n hx hb d_Md_setsOf_47 rfl (lv_at hl 1 rfl) ?_
        refine lv_iload_n hx hb d_Md_setsOf_48 rfl (lv_at hl 3 rfl) ?_
        refine g_iald hx hb hK.1 hP 21 0 (wMd_27 t a (gSt τ 28 (rho q) ((τ 28 (rho q)) ||| (1 <<< ((nI q) &&& 31))))) rfl q (rfl) (by omega) (by decide) d_Md_setsOf_49 ?_
        refine lv_topi (fun v_4 e_4 => ?_)
        obtain rfl : v_4 = nI (rho q) := e_4.trans ((congrFun (hfix 27 (by decide)) q).trans (hrow q (by omega)).1)
        refine lv_iload_n hx hb d_Md_setsOf_50 rfl (lv_at hl 2 rfl) ?_
        refine lv_icmp_lt (tgt := 62) hx hb d_Md_setsOf_51 (by decide) (fun c_5 => ?_) (fun c_5 => ?_)
        · 
          have h_5 : rho q < nn := (nI_ltI (a := rho q) (b := nn) (by omega) (by omega)).mp c_5
          refine lv_iload_n hx hb d_Md_setsOf_62 rfl (lv_at hl 2 rfl) ?_
          refine lv_istore_n (lv' := [(2, .int (nI nn)), (0, .ref (a 0)), (1, .ref (a 27)), (3, .int (nI q))]) hx hb d_Md_setsOf_63 rfl hl (by decide) rfl (fun ls hl => ?_)
          refine lv_iinc (v := nI (q + 1)) (lv' := [(3, .int (nI (q + 1))), (2, .int (nI nn)), (0, .ref (a 0)), (1, .ref (a 27))]) hx hb d_Md_setsOf_64 hl (k := 3) rfl (nI_1 q) (by decide) rfl (fun ls hl => ?_)
          refine lv_goto (tgt := 25) hx hb d_Md_setsOf_67 (by decide) ?_
          exact ih (q + 1) nn (gSt τ 28 (rho q) ((τ 28 (rho q)) ||| (1 <<< ((nI q) &&& 31)))) _ _ _ (by omega) (by omega) (by simp [mSets, hs, c_2, h_2, c_5, h_5]) (by omega) (fun i hi => (gSt_ne _ _ _ _ hi).trans (hfix i hi)) hP hD hS (lv_sub hl [2, 3, 1, 0] rfl)
        · 
          have h_5 : ¬ rho q < nn := fun q9 => c_5 ((nI_ltI (a := rho q) (b := nn) (by omega) (by omega)).mpr q9)
          refine lv_aload_n hx hb d_Md_setsOf_54 rfl (lv_at hl 1 rfl) ?_
          refine lv_iload_n hx hb d_Md_setsOf_55 rfl (lv_at hl 3 rfl) ?_
          refine g_iald hx hb hK.1 hP 21 0 (wMd_27 t a (gSt τ 28 (rho q) ((τ 28 (rho q)) ||| (1 <<< ((nI q) &&& 31))))) rfl q (rfl) (by omega) (by decide) d_Md_setsOf_56 ?_
          refine lv_topi (fun v_6 e_6 => ?_)
          obtain rfl : v_6 = nI (rho q) := e_6.trans ((congrFun (hfix 27 (by decide)) q).trans (hrow q (by omega)).1)
          refine lv_iconst (v := 1) hx hb d_Md_setsOf_57 (by decide) ?_
          refine lv_iadd hx hb d_Md_setsOf_58 ?_
          refine lv_topi (fun v_7 e_7 => ?_)
          obtain rfl : v_7 = nI (rho q + 1) := e_7.trans (nI_1 _)
          refine lv_goto (tgt := 63) hx hb d_Md_setsOf_59 (by decide) ?_
          refine lv_istore_n (lv' := [(2, .int (nI (rho q + 1))), (0, .ref (a 0)), (1, .ref (a 27)), (3, .int (nI q))]) hx hb d_Md_setsOf_63 rfl hl (by decide) rfl (fun ls hl => ?_)
          refine lv_iinc (v := nI (q + 1)) (lv' := [(3, .int (nI (q + 1))), (2, .int (nI (rho q + 1))), (0, .ref (a 0)), (1, .ref (a 27))]) hx hb d_Md_setsOf_64 hl (k := 3) rfl (nI_1 q) (by decide) rfl (fun ls hl => ?_)
          refine lv_goto (tgt := 25) hx hb d_Md_setsOf_67 (by decide) ?_
          exact ih (q + 1) (rho q + 1) (gSt τ 28 (rho q) ((τ 28 (rho q)) ||| (1 <<< ((nI q) &&& 31)))) _ _ _ (by omega) (by omega) (by simp [mSets, hs, c_2, h_2, c_5, h_5]) (by omega) (fun i hi => (gSt_ne _ _ _ _ hi).trans (hfix i hi)) hP hD hS (lv_sub hl [2, 3, 1, 0] rfl)
  have cut_4 : ∀ (n : Nat) (k : Nat) (τ : Nat → Nat → Int32) (H : Heap) (locs : List Loc) (ls : Array Slot), (k ≤ 8) → (9 ≤ k + n) → (mZero σ k = τ) → va_P D gCl (wMd t a τ) H → va_D A (wMd t a τ) → va_S A s.heap H locs → lv_has ls 4 [(0, .ref (a 0)), (1, .ref (a 27)), (2, .int 0), (3, .int (nI k))] → gGo l p e s m below meth c D t A 0 [.ref (a 0), .ref (a 27)] (wMd t a) (fun r u => r = nI (mSets σ rho np).2 ∧ u = (mSets σ rho np).1) H locs (F0 m 4 ls []) := by
    intro n
    induction n with
    | zero =>
      intro k τ H locs ls hk hf hs hP hD hS hl
      exact absurd hf (by omega)
    | succ n ih =>
      intro k τ H locs ls hk hf hs hP hD hS hl
      refine lv_iload_n hx hb d_Md_setsOf_4 rfl (lv_at hl 3 rfl) ?_
      refine lv_bipush (v := 8) hx hb d_Md_setsOf_5 (by decide) ?_
      refine lv_icmp_ge (tgt := 23) hx hb d_Md_setsOf_7 (by decide) (fun c_8 => ?_) (fun c_8 => ?_)
      · 
        have h_8 : 8 ≤ k := (nI_leI (a := 8) (b := k) (by omega) (by omega)).mp c_8
        refine lv_iconst (v := 0) hx hb d_Md_setsOf_23 (by decide) ?_
        refine lv_istore_n (lv' := [(3, .int 0), (0, .ref (a 0)), (1, .ref (a 27)), (2, .int 0)]) hx hb d_Md_setsOf_24 rfl hl (by decide) rfl (fun ls hl => ?_)
        exact cut_25 (np + 1) 0 0 τ _ _ _ (by omega) (by omega) (by obtain rfl : k = 8 := (by omega); rw [← hs]; rfl) (by omega) (fun i hi => by rw [← hs]; exact mZero_fix σ hi k) hP hD hS (lv_sub hl [1, 2, 3, 0] rfl)
      · 
        have h_8 : ¬ 8 ≤ k := fun q9 => c_8 ((nI_leI (a := 8) (b := k) (by omega) (by omega)).mpr q9)
        refine lv_aload_n hx hb d_Md_setsOf_10 rfl (lv_at hl 0 rfl) ?_
        refine va_get (D := D) (ci := 7) (v := .ref (a 28)) (C := R_Md) (T := F_Md) (N := 34) hx hb hts (fun w h => List.mem_cons_of_mem _ (i_Md w h)) hown hK.1 hP 0 (wMd_0 t a τ) rfl 28 (by decide) (hts (.fieldLink R_Md 74 "FlatBoxesModel" "sets" "[I") (List.mem_cons_of_mem _ (gIn k_694 (by decide +kernel)))) (fun _ h9 => h9) rfl d_Md_setsOf_11 ?_
        refine lv_iload_n hx hb d_Md_setsOf_14 rfl (lv_at hl 3 rfl) ?_
        refine lv_iconst (v := 0) hx hb d_Md_setsOf_15 (by decide) ?_
        refine g_iast hx hb hK.1 hP hD hS 22 0 (wMd_28 t a τ) rfl k (rfl) (by omega) (by decide) (w' := wMd t a (gSt τ 28 k 0)) (sMd_28 t a τ k 0) d_Md_setsOf_16 (fun H locs hP hD hS => ?_)
        refine lv_iinc (v := nI (k + 1)) (lv' := [(3, .int (nI (k + 1))), (0, .ref (a 0)), (1, .ref (a 27)), (2, .int 0)]) hx hb d_Md_setsOf_17 hl (k := 3) rfl (nI_1 k) (by decide) rfl (fun ls hl => ?_)
        refine lv_goto (tgt := 4) hx hb d_Md_setsOf_20 (by decide) ?_
        exact ih (k + 1) (gSt τ 28 k 0) _ _ _ (by omega) (by omega) (by rw [← hs]; rfl) hP hD hS (lv_sub hl [1, 2, 3, 0] rfl)
  refine lv_iconst (v := 0) hx hb d_Md_setsOf_0 (by decide) ?_
  refine lv_istore_n (lv' := [(2, .int 0), (0, .ref (a 0)), (1, .ref (a 27))]) hx hb d_Md_setsOf_1 rfl hl (by decide) rfl (fun ls hl => ?_)
  refine lv_iconst (v := 0) hx hb d_Md_setsOf_2 (by decide) ?_
  refine lv_istore_n (lv' := [(3, .int 0), (2, .int 0), (0, .ref (a 0)), (1, .ref (a 27))]) hx hb d_Md_setsOf_3 rfl hl (by decide) rfl (fun ls hl => ?_)
  exact cut_4 (9) 0 σ _ _ _ (by omega) (by omega) (rfl) hP hD hS (lv_sub hl [2, 3, 1, 0] rfl)
set_option maxHeartbeats 4000000 in
set_option maxRecDepth 100000 in
theorem c_Md_setsOf_s (l : Launch) (D : va_G) (t : Nat → ClassId) (a : Nat → Nat) (σ : Nat → Nat → Int32) (np : Nat) (rho : Nat → Nat) (hN : σ 8 0 = nI np) (hN8 : np ≤ 8) (hrow : ∀ q, q < np → σ 26 q = nI (rho q) ∧ rho q < 8) : gMi l D t y_Md_setsOf b_Md_setsOf 4 (some .int) 0 [.ref (a 0), .ref (a 26)] (wMd t a σ) (wMd t a) (fun r u => r = nI (mSets σ rho np).2 ∧ u = (mSets σ rho np).1) := by
  intro A
  refine Met.ofW (cc := b_Md_setsOf) (maxL := 4) (ret := (some .int)) (by decide) rfl ?_
  intro p e s m args below meth c s₁ B hml hv
  obtain ⟨rfl, hK, hP, hD⟩ := hv
  have hx := B.exec
  have hb := B.bytes
  have hr := B.returns
  have hts := atoms_spec (ws := .code y_Md_setsOf b_Md_setsOf 4 (some .int) :: gBig) B.pre
  have hown : s.vm.findClass R_Md = some m.cls := findClass_of_methodNamed B.named
  have hlocks := B.notSynchronized
  have hS : va_S A s.heap s.heap [] := va_S.rf
  have hl := lv_entry ([.ref (a 0), .ref (a 26)]) (n := 4) (Nat.le_of_ble_eq_true rfl)
  rw [lg_entry_eq]
  generalize (lg_sl ([.ref (a 0), .ref (a 26)]) ++ List.replicate (4 - (lg_sl ([.ref (a 0), .ref (a 26)])).length) Slot.unset).toArray = ls at hl ⊢
  have hl : lv_has ls 4 [(0, .ref (a 0)), (1, .ref (a 26))] := hl
  show gGo l p e s m below meth c D t A 0 [.ref (a 0), .ref (a 26)] (wMd t a) (fun r u => r = nI (mSets σ rho np).2 ∧ u = (mSets σ rho np).1) s.heap [] (F0 m 0 ls [])
  have cut_25 : ∀ (n : Nat) (q : Nat) (nn : Nat) (τ : Nat → Nat → Int32) (H : Heap) (locs : List Loc) (ls : Array Slot), (q ≤ np) → (np + 1 ≤ q + n) → (mSets σ rho q = (τ, nn)) → (nn ≤ 8) → (∀ i, i ≠ 28 → τ i = σ i) → va_P D gCl (wMd t a τ) H → va_D A (wMd t a τ) → va_S A s.heap H locs → lv_has ls 4 [(0, .ref (a 0)), (1, .ref (a 26)), (2, .int (nI nn)), (3, .int (nI q))] → gGo l p e s m below meth c D t A 0 [.ref (a 0), .ref (a 26)] (wMd t a) (fun r u => r = nI (mSets σ rho np).2 ∧ u = (mSets σ rho np).1) H locs (F0 m 25 ls []) := by
    intro n
    induction n with
    | zero =>
      intro q nn τ H locs ls hq hf hs hnn hfix hP hD hS hl
      exact absurd hf (by omega)
    | succ n ih =>
      intro q nn τ H locs ls hq hf hs hnn hfix hP hD hS hl
      refine lv_iload_n hx hb d_Md_setsOf_25 rfl (lv_at hl 3 rfl) ?_
      refine lv_aload_n hx hb d_Md_setsOf_26 rfl (lv_at hl 0 rfl) ?_
      refine va_get (D := D) (ci := 7) (v := .int (τ 8 0)) (C := R_Md) (T := F_Md) (N := 34) hx hb hts (fun w h => List.mem_cons_of_mem _ (i_Md w h)) hown hK.1 hP 0 (wMd_0 t a τ) rfl 8 (by decide) (hts (.fieldLink R_Md 113 "FlatBoxesModel" "parts" "I") (List.mem_cons_of_mem _ (gIn k_674 (by decide +kernel)))) (fun _ h9 => h9) rfl d_Md_setsOf_27 ?_
      refine lv_topi (fun v_1 e_1 => ?_)
      obtain rfl : v_1 = nI np := e_1.trans ((congrFun (hfix 8 (by decide)) 0).trans hN)
      refine lv_icmp_ge (tgt := 70) hx hb d_Md_setsOf_30 (by decide) (fun c_2 => ?_) (fun c_2 => ?_)
      · 
        have h_2 : np ≤ q := (nI_leI (a := np) (b := q) (by omega) (by omega)).mp c_2
        refine lv_iload_n hx hb d_Md_setsOf_70 rfl (lv_at hl 2 rfl) ?_
        exact W.iret (v := nI nn) hx hb hr (fun U hU hW => ⟨⟨nI nn, τ, rfl, by obtain rfl : q = np := (by omega); exact ⟨by rw [hs], by rw [hs]⟩, by rw [hU]; exact hP, hD⟩, hS.F hU⟩) hS.2.2 d_Md_setsOf_71
      · 
        have h_2 : ¬ np ≤ q := fun q9 => c_2 ((nI_leI (a := np) (b := q) (by omega) (by omega)).mpr q9)
        refine lv_aload_n hx hb d_Md_setsOf_33 rfl (lv_at hl 0 rfl) ?_
        refine va_get (D := D) (ci := 7) (v := .ref (a 28)) (C := R_Md) (T := F_Md) (N := 34) hx hb hts (fun w h => List.mem_cons_of_mem _ (i_Md w h)) hown hK.1 hP 0 (wMd_0 t a τ) rfl 28 (by decide) (hts (.fieldLink R_Md 74 "FlatBoxesModel" "sets" "[I") (List.mem_cons_of_mem _ (gIn k_694 (by decide +kernel)))) (fun _ h9 => h9) rfl d_Md_setsOf_34 ?_
        refine lv_aload_n hx hb d_Md_setsOf_37 rfl (lv_at hl 1 rfl) ?_
        refine lv_iload_n hx hb d_Md_setsOf_38 rfl (lv_at hl 3 rfl) ?_
        refine g_iald hx hb hK.1 hP 20 0 (wMd_26 t a τ) rfl q (rfl) (by omega) (by decide) d_Md_setsOf_39 ?_
        refine lv_topi (fun v_3 e_3 => ?_)
        obtain rfl : v_3 = nI (rho q) := e_3.trans ((congrFun (hfix 26 (by decide)) q).trans (hrow q (by omega)).1)
        have hr8 := (hrow q (by omega)).2
        refine lv_dup2_11 hx hb d_Md_setsOf_40 rfl rfl ?_
        refine g_iald hx hb hK.1 hP 22 0 (wMd_28 t a τ) rfl (rho q) (rfl) (by omega) (by decide) d_Md_setsOf_41 ?_
        refine lv_iconst (v := 1) hx hb d_Md_setsOf_42 (by decide) ?_
        refine lv_iload_n hx hb d_Md_setsOf_43 rfl (lv_at hl 3 rfl) ?_
        refine lv_ishl hx hb d_Md_setsOf_44 ?_
        refine lv_ior hx hb d_Md_setsOf_45 ?_
        refine g_iast hx hb hK.1 hP hD hS 22 0 (wMd_28 t a τ) rfl (rho q) (rfl) (by omega) (by decide) (w' := wMd t a (gSt τ 28 (rho q) ((τ 28 (rho q)) ||| (1 <<< ((nI q) &&& 31))))) (sMd_28 t a τ (rho q) ((τ 28 (rho q)) ||| (1 <<< ((nI q) &&& 31)))) d_Md_setsOf_46 (fun H locs hP hD hS => ?_)
        refine lv_aload_n hx hb d_Md_setsOf_47 rfl (lv_at hl 1 rfl) ?_
        refine lv_iload_n hx hb d_Md_setsOf_48 rfl (lv_at hl 3 rfl) ?_
        refine g_iald hx hb hK.1 hP 20 0 (wMd_26 t a (gSt τ 28 (rho q) ((τ 28 (rho q)) ||| (1 <<< ((nI q) &&& 31))))) rfl q (rfl) (by omega) (by decide) d_Md_setsOf_49 ?_
        refine lv_topi (fun v_4 e_4 => ?_)
        obtain rfl : v_4 = nI (rho q) := e_4.trans ((congrFun (hfix 26 (by decide)) q).trans (hrow q (by omega)).1)
        refine lv_iload_n hx hb d_Md_setsOf_50 rfl (lv_at hl 2 rfl) ?_
        refine lv_icmp_lt (tgt := 62) hx hb d_Md_setsOf_51 (by decide) (fun c_5 => ?_) (fun c_5 => ?_)
        · 
          have h_5 : rho q < nn := (nI_ltI (a := rho q) (b := nn) (by omega) (by omega)).mp c_5
          refine lv_iload_n hx hb d_Md_setsOf_62 rfl (lv_at hl 2 rfl) ?_
          refine lv_istore_n (lv' := [(2, .int (nI nn)), (0, .ref (a 0)), (1, .ref (a 26)), (3, .int (nI q))]) hx hb d_Md_setsOf_63 rfl hl (by decide) rfl (fun ls hl => ?_)
          refine lv_iinc (v := nI (q + 1)) (lv' := [(3, .int (nI (q + 1))), (2, .int (nI nn)), (0, .ref (a 0)), (1, .ref (a 26))]) hx hb d_Md_setsOf_64 hl (k := 3) rfl (nI_1 q) (by decide) rfl (fun ls hl => ?_)
          refine lv_goto (tgt := 25) hx hb d_Md_setsOf_67 (by decide) ?_
          exact ih (q + 1) nn (gSt τ 28 (rho q) ((τ 28 (rho q)) ||| (1 <<< ((nI q) &&& 31)))) _ _ _ (by omega) (by omega) (by simp [mSets, hs, c_2, h_2, c_5, h_5]) (by omega) (fun i hi => (gSt_ne _ _ _ _ hi).trans (hfix i hi)) hP hD hS (lv_sub hl [2, 3, 1, 0] rfl)
        · 
          have h_5 : ¬ rho q < nn := fun q9 => c_5 ((nI_ltI (a := rho q) (b := nn) (by omega) (by omega)).mpr q9)
          refine lv_aload_n hx hb d_Md_setsOf_54 rfl (lv_at hl 1 rfl) ?_
          refine lv_iload_n hx hb d_Md_setsOf_55 rfl (lv_at hl 3 rfl) ?_
          refine g_iald hx hb hK.1 hP 20 0 (wMd_26 t a (gSt τ 28 (rho q) ((τ 28 (rho q)) ||| (1 <<< ((nI q) &&& 31))))) rfl q (rfl) (by omega) (by decide) d_Md_setsOf_56 ?_
          refine lv_topi (fun v_6 e_6 => ?_)
          obtain rfl : v_6 = nI (rho q) := e_6.trans ((congrFun (hfix 26 (by decide)) q).trans (hrow q (by omega)).1)
          refine lv_iconst (v := 1) hx hb d_Md_setsOf_57 (by decide) ?_
          refine lv_iadd hx hb d_Md_setsOf_58 ?_
          refine lv_topi (fun v_7 e_7 => ?_)
          obtain rfl : v_7 = nI (rho q + 1) := e_7.trans (nI_1 _)
          refine lv_goto (tgt := 63) hx hb d_Md_setsOf_59 (by decide) ?_
          refine lv_istore_n (lv' := [(2, .int (nI (rho q + 1))), (0, .ref (a 0)), (1, .ref (a 26)), (3, .int (nI q))]) hx hb d_Md_setsOf_63 rfl hl (by decide) rfl (fun ls hl => ?_)
          refine lv_iinc (v := nI (q + 1)) (lv' := [(3, .int (nI (q + 1))), (2, .int (nI (rho q + 1))), (0, .ref (a 0)), (1, .ref (a 26))]) hx hb d_Md_setsOf_64 hl (k := 3) rfl (nI_1 q) (by decide) rfl (fun ls hl => ?_)
          refine lv_goto (tgt := 25) hx hb d_Md_setsOf_67 (by decide) ?_
          exact ih (q + 1) (rho q + 1) (gSt τ 28 (rho q) ((τ 28 (rho q)) ||| (1 <<< ((nI q) &&& 31)))) _ _ _ (by omega) (by omega) (by simp [mSets, hs, c_2, h_2, c_5, h_5]) (by omega) (fun i hi => (gSt_ne _ _ _ _ hi).trans (hfix i hi)) hP hD hS (lv_sub hl [2, 3, 1, 0] rfl)
  have cut_4 : ∀ (n : Nat) (k : Nat) (τ : Nat → Nat → Int32) (H : Heap) (locs : List Loc) (ls : Array Slot), (k ≤ 8) → (9 ≤ k + n) → (mZero σ k = τ) → va_P D gCl (wMd t a τ) H → va_D A (wMd t a τ) → va_S A s.heap H locs → lv_has ls 4 [(0, .ref (a 0)), (1, .ref (a 26)), (2, .int 0), (3, .int (nI k))] → gGo l p e s m below meth c D t A 0 [.ref (a 0), .ref (a 26)] (wMd t a) (fun r u => r = nI (mSets σ rho np).2 ∧ u = (mSets σ rho np).1) H locs (F0 m 4 ls []) := by
    intro n
    induction n with
    | zero =>
      intro k τ H locs ls hk hf hs hP hD hS hl
      exact absurd hf (by omega)
    | succ n ih =>
      intro k τ H locs ls hk hf hs hP hD hS hl
      refine lv_iload_n hx hb d_Md_setsOf_4 rfl (lv_at hl 3 rfl) ?_
      refine lv_bipush (v := 8) hx hb d_Md_setsOf_5 (by decide) ?_
      refine lv_icmp_ge (tgt := 23) hx hb d_Md_setsOf_7 (by decide) (fun c_8 => ?_) (fun c_8 => ?_)
      · 
        have h_8 : 8 ≤ k := (nI_leI (a := 8) (b := k) (by omega) (by omega)).mp c_8
        refine lv_iconst (v := 0) hx hb d_Md_setsOf_23 (by decide) ?_
        refine lv_istore_n (lv' := [(3, .int 0), (0, .ref (a 0)), (1, .ref (a 26)), (2, .int 0)]) hx hb d_Md_setsOf_24 rfl hl (by decide) rfl (fun ls hl => ?_)
        exact cut_25 (np + 1) 0 0 τ _ _ _ (by omega) (by omega) (by obtain rfl : k = 8 := (by omega); rw [← hs]; rfl) (by omega) (fun i hi => by rw [← hs]; exact mZero_fix σ hi k) hP hD hS (lv_sub hl [1, 2, 3, 0] rfl)
      · 
        have h_8 : ¬ 8 ≤ k := fun q9 => c_8 ((nI_leI (a := 8) (b := k) (by omega) (by omega)).mpr q9)
        refine lv_aload_n hx hb d_Md_setsOf_10 rfl (lv_at hl 0 rfl) ?_
        refine va_get (D := D) (ci := 7) (v := .ref (a 28)) (C := R_Md) (T := F_Md) (N := 34) hx hb hts (fun w h => List.mem_cons_of_mem _ (i_Md w h)) hown hK.1 hP 0 (wMd_0 t a τ) rfl 28 (by decide) (hts (.fieldLink R_Md 74 "FlatBoxesModel" "sets" "[I") (List.mem_cons_of_mem _ (gIn k_694 (by decide +kernel)))) (fun _ h9 => h9) rfl d_Md_setsOf_11 ?_
        refine lv_iload_n hx hb d_Md_setsOf_14 rfl (lv_at hl 3 rfl) ?_
        refine lv_iconst (v := 0) hx hb d_Md_setsOf_15 (by decide) ?_
        refine g_iast hx hb hK.1 hP hD hS 22 0 (wMd_28 t a τ) rfl k (rfl) (by omega) (by decide) (w' := wMd t a (gSt τ 28 k 0)) (sMd_28 t a τ k 0) d_Md_setsOf_16 (fun H locs hP hD hS => ?_)
        refine lv_iinc (v := nI (k + 1)) (lv' := [(3, .int (nI (k + 1))), (0, .ref (a 0)), (1, .ref (a 26)), (2, .int 0)]) hx hb d_Md_setsOf_17 hl (k := 3) rfl (nI_1 k) (by decide) rfl (fun ls hl => ?_)
        refine lv_goto (tgt := 4) hx hb d_Md_setsOf_20 (by decide) ?_
        exact ih (k + 1) (gSt τ 28 k 0) _ _ _ (by omega) (by omega) (by rw [← hs]; rfl) hP hD hS (lv_sub hl [1, 2, 3, 0] rfl)
  refine lv_iconst (v := 0) hx hb d_Md_setsOf_0 (by decide) ?_
  refine lv_istore_n (lv' := [(2, .int 0), (0, .ref (a 0)), (1, .ref (a 26))]) hx hb d_Md_setsOf_1 rfl hl (by decide) rfl (fun ls hl => ?_)
  refine lv_iconst (v := 0) hx hb d_Md_setsOf_2 (by decide) ?_
  refine lv_istore_n (lv' := [(3, .int 0), (2, .int 0), (0, .ref (a 0)), (1, .ref (a 26))]) hx hb d_Md_setsOf_3 rfl hl (by decide) rfl (fun ls hl => ?_)
  exact cut_4 (9) 0 σ _ _ _ (by omega) (by omega) (rfl) hP hD hS (lv_sub hl [2, 3, 1, 0] rfl)
set_option maxHeartbeats 4000000 in
set_option maxRecDepth 100000 in
theorem c_Md_costOf (l : Launch) (D : va_G) (t : Nat → ClassId) (a : Nat → Nat) (σ : Nat → Nat → Int32) (mm : Nat) (hm : mm ≤ 8) (sx : Nat → Nat) (hsx : ∀ b, b < mm → σ 28 b = nI (sx b) ∧ sx b < 256) (hbx : ∀ b, b < mm → σ 23 (sx b) < 0 ∨ ∃ c, c < 4 ∧ σ 23 (sx b) = nI c) : gMi l D t y_Md_costOf b_Md_costOf 4 (some .int) 0 [.ref (a 0), .int (nI mm)] (wMd t a σ) (wMd t a) (fun r u => r = mCost σ sx mm 0 0 ∧ u = σ) := by
  intro A
  refine Met.ofW (cc := b_Md_costOf) (maxL := 4) (ret := (some .int)) (by decide) rfl ?_
  intro p e s m args below meth c s₁ B hml hv
  obtain ⟨rfl, hK, hP, hD⟩ := hv
  have hx := B.exec
  have hb := B.bytes
  have hr := B.returns
  have hts := atoms_spec (ws := .code y_Md_costOf b_Md_costOf 4 (some .int) :: gBig) B.pre
  have hown : s.vm.findClass R_Md = some m.cls := findClass_of_methodNamed B.named
  have hlocks := B.notSynchronized
  have hS : va_S A s.heap s.heap [] := va_S.rf
  have hl := lv_entry ([.ref (a 0), .int (nI mm)]) (n := 4) (Nat.le_of_ble_eq_true rfl)
  rw [lg_entry_eq]
  generalize (lg_sl ([.ref (a 0), .int (nI mm)]) ++ List.replicate (4 - (lg_sl ([.ref (a 0), .int (nI mm)])).length) Slot.unset).toArray = ls at hl ⊢
  have hl : lv_has ls 4 [(0, .ref (a 0)), (1, .int (nI mm))] := hl
  show gGo l p e s m below meth c D t A 0 [.ref (a 0), .int (nI mm)] (wMd t a) (fun r u => r = mCost σ sx mm 0 0 ∧ u = σ) s.heap [] (F0 m 0 ls [])
  have cut_4 : ∀ (n : Nat) (d : Nat) (b : Nat) (acc : Int32) (H : Heap) (locs : List Loc) (ls : Array Slot), (b + d = mm) → (d + 1 ≤ n) → (mCost σ sx mm 0 0 = mCost σ sx d b acc) → va_P D gCl (wMd t a σ) H → va_D A (wMd t a σ) → va_S A s.heap H locs → lv_has ls 4 [(0, .ref (a 0)), (1, .int (nI mm)), (2, .int acc), (3, .int (nI b))] → gGo l p e s m below meth c D t A 0 [.ref (a 0), .int (nI mm)] (wMd t a) (fun r u => r = mCost σ sx mm 0 0 ∧ u = σ) H locs (F0 m 4 ls []) := by
    intro n
    induction n with
    | zero =>
      intro d b acc H locs ls hd hf hs hP hD hS hl
      exact absurd hf (by omega)
    | succ n ih =>
      intro d b acc H locs ls hd hf hs hP hD hS hl
      refine lv_iload_n hx hb d_Md_costOf_4 rfl (lv_at hl 3 rfl) ?_
      refine lv_iload_n hx hb d_Md_costOf_5 rfl (lv_at hl 1 rfl) ?_
      refine lv_icmp_ge (tgt := 50) hx hb d_Md_costOf_6 (by decide) (fun c_1 => ?_) (fun c_1 => ?_)
      · 
        have h_1 : mm ≤ b := (nI_leI (a := mm) (b := b) (by omega) (by omega)).mp c_1
        refine lv_iload_n hx hb d_Md_costOf_50 rfl (lv_at hl 2 rfl) ?_
        exact W.iret (v := acc) hx hb hr (fun U hU hW => ⟨⟨acc, σ, rfl, by exact ⟨by rw [hs]; obtain rfl : d = 0 := (by omega); rfl, rfl⟩, by rw [hU]; exact hP, hD⟩, hS.F hU⟩) hS.2.2 d_Md_costOf_51
      · 
        have h_1 : ¬ mm ≤ b := fun q9 => c_1 ((nI_leI (a := mm) (b := b) (by omega) (by omega)).mpr q9)
        obtain ⟨d, rfl⟩ : ∃ d9, d = d9 + 1 := ⟨d - 1, by omega⟩
        refine lv_aload_n hx hb d_Md_costOf_9 rfl (lv_at hl 0 rfl) ?_
        refine va_get (D := D) (ci := 7) (v := .ref (a 23)) (C := R_Md) (T := F_Md) (N := 34) hx hb hts (fun w h => List.mem_cons_of_mem _ (i_Md w h)) hown hK.1 hP 0 (wMd_0 t a σ) rfl 23 (by decide) (hts (.fieldLink R_Md 65 "FlatBoxesModel" "boxOf" "[I") (List.mem_cons_of_mem _ (gIn k_689 (by decide +kernel)))) (fun _ h9 => h9) rfl d_Md_costOf_10 ?_
        refine lv_aload_n hx hb d_Md_costOf_13 rfl (lv_at hl 0 rfl) ?_
        refine va_get (D := D) (ci := 7) (v := .ref (a 28)) (C := R_Md) (T := F_Md) (N := 34) hx hb hts (fun w h => List.mem_cons_of_mem _ (i_Md w h)) hown hK.1 hP 0 (wMd_0 t a σ) rfl 28 (by decide) (hts (.fieldLink R_Md 74 "FlatBoxesModel" "sets" "[I") (List.mem_cons_of_mem _ (gIn k_694 (by decide +kernel)))) (fun _ h9 => h9) rfl d_Md_costOf_14 ?_
        refine lv_iload_n hx hb d_Md_costOf_17 rfl (lv_at hl 3 rfl) ?_
        refine g_iald hx hb hK.1 hP 22 0 (wMd_28 t a σ) rfl b (rfl) (by omega) (by decide) d_Md_costOf_18 ?_
        refine lv_topi (fun v_2 e_2 => ?_)
        obtain rfl : v_2 = nI (sx b) := e_2.trans ((hsx b (by omega)).1)
        have h256 := (hsx b (by omega)).2
        refine g_iald hx hb hK.1 hP 19 0 (wMd_23 t a σ) rfl (sx b) (rfl) (by omega) (by decide) d_Md_costOf_19 ?_
        refine lv_if_ge (tgt := 25) hx hb d_Md_costOf_20 (by decide) (fun c_3 => ?_) (fun c_3 => ?_)
        · 
          obtain ⟨c1, hc1, hc2⟩ := (hbx b (by omega)).resolve_left (fun h9 => absurd c_3 (Int32.not_le.mpr h9))
          refine lv_iload_n hx hb d_Md_costOf_25 rfl (lv_at hl 2 rfl) ?_
          refine lv_aload_n hx hb d_Md_costOf_26 rfl (lv_at hl 0 rfl) ?_
          refine va_get (D := D) (ci := 7) (v := .ref (a 6)) (C := R_Md) (T := F_Md) (N := 34) hx hb hts (fun w h => List.mem_cons_of_mem _ (i_Md w h)) hown hK.1 hP 0 (wMd_0 t a σ) rfl 6 (by decide) (hts (.fieldLink R_Md 19 "FlatBoxesModel" "cents" "[I") (List.mem_cons_of_mem _ (gIn k_672 (by decide +kernel)))) (fun _ h9 => h9) rfl d_Md_costOf_27 ?_
          refine lv_aload_n hx hb d_Md_costOf_30 rfl (lv_at hl 0 rfl) ?_
          refine va_get (D := D) (ci := 7) (v := .ref (a 23)) (C := R_Md) (T := F_Md) (N := 34) hx hb hts (fun w h => List.mem_cons_of_mem _ (i_Md w h)) hown hK.1 hP 0 (wMd_0 t a σ) rfl 23 (by decide) (hts (.fieldLink R_Md 65 "FlatBoxesModel" "boxOf" "[I") (List.mem_cons_of_mem _ (gIn k_689 (by decide +kernel)))) (fun _ h9 => h9) rfl d_Md_costOf_31 ?_
          refine lv_aload_n hx hb d_Md_costOf_34 rfl (lv_at hl 0 rfl) ?_
          refine va_get (D := D) (ci := 7) (v := .ref (a 28)) (C := R_Md) (T := F_Md) (N := 34) hx hb hts (fun w h => List.mem_cons_of_mem _ (i_Md w h)) hown hK.1 hP 0 (wMd_0 t a σ) rfl 28 (by decide) (hts (.fieldLink R_Md 74 "FlatBoxesModel" "sets" "[I") (List.mem_cons_of_mem _ (gIn k_694 (by decide +kernel)))) (fun _ h9 => h9) rfl d_Md_costOf_35 ?_
          refine lv_iload_n hx hb d_Md_costOf_38 rfl (lv_at hl 3 rfl) ?_
          refine g_iald hx hb hK.1 hP 22 0 (wMd_28 t a σ) rfl b (rfl) (by omega) (by decide) d_Md_costOf_39 ?_
          refine lv_topi (fun v_4 e_4 => ?_)
          obtain rfl : v_4 = nI (sx b) := e_4.trans ((hsx b (by omega)).1)
          refine g_iald hx hb hK.1 hP 19 0 (wMd_23 t a σ) rfl (sx b) (rfl) (by omega) (by decide) d_Md_costOf_40 ?_
          refine lv_topi (fun v_5 e_5 => ?_)
          obtain rfl : v_5 = nI c1 := e_5.trans (hc2)
          refine g_iald hx hb hK.1 hP 4 0 (wMd_6 t a σ) rfl c1 (rfl) (by omega) (by decide) d_Md_costOf_41 ?_
          refine lv_iadd hx hb d_Md_costOf_42 ?_
          refine lv_istore_n (lv' := [(2, .int (acc + (σ 6 c1))), (0, .ref (a 0)), (1, .int (nI mm)), (3, .int (nI b))]) hx hb d_Md_costOf_43 rfl hl (by decide) rfl (fun ls hl => ?_)
          refine lv_iinc (v := nI (b + 1)) (lv' := [(3, .int (nI (b + 1))), (2, .int (acc + (σ 6 c1))), (0, .ref (a 0)), (1, .int (nI mm))]) hx hb d_Md_costOf_44 hl (k := 3) rfl (nI_1 b) (by decide) rfl (fun ls hl => ?_)
          refine lv_goto (tgt := 4) hx hb d_Md_costOf_47 (by decide) ?_
          exact ih d (b + 1) (acc + (σ 6 c1)) _ _ _ (by omega) (by omega) (by rw [hs]; simp [mCost, hc2, nI_pos' (show c1 < 2 ^ 31 by omega), nI_clamp (show c1 < 2 ^ 31 by omega)]) hP hD hS (lv_sub hl [2, 3, 1, 0] rfl)
        · 
          refine lv_iconst (v := -1) hx hb d_Md_costOf_23 (by decide) ?_
          exact W.iret (v := -1) hx hb hr (fun U hU hW => ⟨⟨-1, σ, rfl, by exact ⟨by rw [hs]; simp [mCost, c_1, h_1, c_3], rfl⟩, by rw [hU]; exact hP, hD⟩, hS.F hU⟩) hS.2.2 d_Md_costOf_24
  refine lv_iconst (v := 0) hx hb d_Md_costOf_0 (by decide) ?_
  refine lv_istore_n (lv' := [(2, .int 0), (0, .ref (a 0)), (1, .int (nI mm))]) hx hb d_Md_costOf_1 rfl hl (by decide) rfl (fun ls hl => ?_)
  refine lv_iconst (v := 0) hx hb d_Md_costOf_2 (by decide) ?_
  refine lv_istore_n (lv' := [(3, .int 0), (2, .int 0), (0, .ref (a 0)), (1, .int (nI mm))]) hx hb d_Md_costOf_3 rfl hl (by decide) rfl (fun ls hl => ?_)
  exact cut_4 (mm + 1) mm 0 0 _ _ _ (by omega) (by omega) (rfl) hP hD hS (lv_sub hl [2, 3, 1, 0] rfl)
end
section
def mMost (f : Nat → Int32) : Nat → Int32
  | 0 => 0
  | q + 1 => if f q ≤ mMost f q then mMost f q else f q
def mZt (σ : Nat → Nat → Int32) (p : Nat) : Nat → (Nat → Nat → Int32)
  | 0 => σ
  | k + 1 => gSt (mZt σ p k) 27 (p + 1 + k) 0
def mNext (σ : Nat → Nat → Int32) (np : Nat) : Nat → (Nat → Nat → Int32) × Int32
  | 0 => (σ, 0)
  | p + 1 => if p = 0 then (σ, 0) else if mMost (σ 27) p < σ 27 p then mNext σ np p else (mZt (gSt σ 27 p (σ 27 p + 1)) p (np - (p + 1)), 1)
theorem gDle : ∀ d, d < 9 → (nI d - 1 ≤ 0 ↔ d ≤ 1) := by decide
theorem gM1 (x : Int32) : x + Int32.ofInt (-1) = x - 1 := by rw [Int32.sub_eq_add_neg]; rfl


set_option maxHeartbeats 4000000 in
set_option maxRecDepth 100000 in
theorem c_Md_next (l : Launch) (D : va_G) (t : Nat → ClassId) (a : Nat → Nat) (σ : Nat → Nat → Int32) (np : Nat) (hN : σ 8 0 = nI np) (hN8 : np ≤ 8) : gMi l D t y_Md_next b_Md_next 4 (some .boolean) 0 [.ref (a 0)] (wMd t a σ) (wMd t a) (fun r u => r = (mNext σ np np).2 ∧ u = (mNext σ np np).1) := by
  intro A
  refine Met.ofW (cc := b_Md_next) (maxL := 4) (ret := (some .boolean)) (by decide) rfl ?_
  intro p e s m args below meth c s₁ B hml hv
  obtain ⟨rfl, hK, hP, hD⟩ := hv
  have hx := B.exec
  have hb := B.bytes
  have hr := B.returns
  have hts := atoms_spec (ws := .code y_Md_next b_Md_next 4 (some .boolean) :: gBig) B.pre
  have hown : s.vm.findClass R_Md = some m.cls := findClass_of_methodNamed B.named
  have hlocks := B.notSynchronized
  have hS : va_S A s.heap s.heap [] := va_S.rf
  have hl := lv_entry ([.ref (a 0)]) (n := 4) (Nat.le_of_ble_eq_true rfl)
  rw [lg_entry_eq]
  generalize (lg_sl ([.ref (a 0)]) ++ List.replicate (4 - (lg_sl ([.ref (a 0)])).length) Slot.unset).toArray = ls at hl ⊢
  have hl : lv_has ls 4 [(0, .ref (a 0))] := hl
  show gGo l p e s m below meth c D t A 0 [.ref (a 0)] (wMd t a) (fun r u => r = (mNext σ np np).2 ∧ u = (mNext σ np np).1) s.heap [] (F0 m 0 ls [])
  have cut_71 : ∀ (n : Nat) (p9 : Nat) (k : Nat) (τ0 : Nat → Nat → Int32) (τ : Nat → Nat → Int32) (H : Heap) (locs : List Loc) (ls : Array Slot), (p9 + 1 + k ≤ np) → (np + 1 ≤ p9 + 1 + k + n) → (mZt τ0 p9 k = τ) → (τ 8 0 = nI np) → (mNext σ np np = (mZt τ0 p9 (np - (p9 + 1)), 1)) → va_P D gCl (wMd t a τ) H → va_D A (wMd t a τ) → va_S A s.heap H locs → lv_has ls 4 [(0, .ref (a 0)), (3, .int (nI (p9 + 1 + k)))] → gGo l p e s m below meth c D t A 0 [.ref (a 0)] (wMd t a) (fun r u => r = (mNext σ np np).2 ∧ u = (mNext σ np np).1) H locs (F0 m 71 ls []) := by
    intro n
    induction n with
    | zero =>
      intro p9 k τ0 τ H locs ls hk hf hs2 h8 hmain hP hD hS hl
      exact absurd hf (by omega)
    | succ n ih =>
      intro p9 k τ0 τ H locs ls hk hf hs2 h8 hmain hP hD hS hl
      refine lv_iload_n hx hb d_Md_next_71 rfl (lv_at hl 1 rfl) ?_
      refine lv_aload_n hx hb d_Md_next_72 rfl (lv_at hl 0 rfl) ?_
      refine va_get (D := D) (ci := 7) (v := .int (τ 8 0)) (C := R_Md) (T := F_Md) (N := 34) hx hb hts (fun w h => List.mem_cons_of_mem _ (i_Md w h)) hown hK.1 hP 0 (wMd_0 t a τ) rfl 8 (by decide) (hts (.fieldLink R_Md 113 "FlatBoxesModel" "parts" "I") (List.mem_cons_of_mem _ (gIn k_674 (by decide +kernel)))) (fun _ h9 => h9) rfl d_Md_next_73 ?_
      refine lv_topi (fun v_1 e_1 => ?_)
      obtain rfl : v_1 = nI np := e_1.trans (h8)
      refine lv_icmp_ge (tgt := 92) hx hb d_Md_next_76 (by decide) (fun c_2 => ?_) (fun c_2 => ?_)
      · 
        have h_2 : np ≤ p9 + 1 + k := (nI_leI (a := np) (b := p9 + 1 + k) (by omega) (by omega)).mp c_2
        refine lv_iconst (v := 1) hx hb d_Md_next_92 (by decide) ?_
        exact W.zret (v := 1) (ty := .boolean) hx hb hr (rfl) (fun U hU hW => ⟨⟨1, τ, rfl, by exact ⟨by rw [hmain], by rw [hmain, ← hs2]; congr 1; omega⟩, by rw [hU]; exact hP, hD⟩, hS.F hU⟩) hS.2.2 d_Md_next_93
      · 
        have h_2 : ¬ np ≤ p9 + 1 + k := fun q9 => c_2 ((nI_leI (a := np) (b := p9 + 1 + k) (by omega) (by omega)).mpr q9)
        refine lv_aload_n hx hb d_Md_next_79 rfl (lv_at hl 0 rfl) ?_
        refine va_get (D := D) (ci := 7) (v := .ref (a 27)) (C := R_Md) (T := F_Md) (N := 34) hx hb hts (fun w h => List.mem_cons_of_mem _ (i_Md w h)) hown hK.1 hP 0 (wMd_0 t a τ) rfl 27 (by decide) (hts (.fieldLink R_Md 71 "FlatBoxesModel" "trial" "[I") (List.mem_cons_of_mem _ (gIn k_693 (by decide +kernel)))) (fun _ h9 => h9) rfl d_Md_next_80 ?_
        refine lv_iload_n hx hb d_Md_next_83 rfl (lv_at hl 1 rfl) ?_
        refine lv_iconst (v := 0) hx hb d_Md_next_84 (by decide) ?_
        refine g_iast hx hb hK.1 hP hD hS 21 0 (wMd_27 t a τ) rfl (p9 + 1 + k) (rfl) (by omega) (by decide) (w' := wMd t a (gSt τ 27 (p9 + 1 + k) 0)) (sMd_27 t a τ (p9 + 1 + k) 0) d_Md_next_85 (fun H locs hP hD hS => ?_)
        refine lv_iinc (v := nI (p9 + 1 + (k + 1))) (lv' := [(3, .int (nI (p9 + 1 + (k + 1)))), (0, .ref (a 0))]) hx hb d_Md_next_86 hl (k := 1) rfl (nI_1 _) (by decide) rfl (fun ls hl => ?_)
        refine lv_goto (tgt := 71) hx hb d_Md_next_89 (by decide) ?_
        exact ih p9 (k + 1) τ0 (gSt τ 27 (p9 + 1 + k) 0) _ _ _ (by omega) (by omega) (by rw [← hs2]; rfl) (h8) (hmain) hP hD hS (lv_sub hl [1, 0] rfl)
  have cut_15 : ∀ (n : Nat) (p9 : Nat) (r : Nat) (mo : Int32) (H : Heap) (locs : List Loc) (ls : Array Slot), (r ≤ p9) → (p9 < 8) → (p9 + 1 ≤ r + n) → (mo = mMost (σ 27) r) → (∀ (H : Heap) (locs : List Loc) (ls : Array Slot), va_P D gCl (wMd t a σ) H → va_D A (wMd t a σ) → va_S A s.heap H locs → lv_has ls 4 [(0, .ref (a 0)), (1, .int (nI (p9 + 1) - 1)), (2, .int (mMost (σ 27) p9))] → gGo l p e s m below meth c D t A 0 [.ref (a 0)] (wMd t a) (fun r u => r = (mNext σ np np).2 ∧ u = (mNext σ np np).1) H locs (F0 m 47 ls [])) → va_P D gCl (wMd t a σ) H → va_D A (wMd t a σ) → va_S A s.heap H locs → lv_has ls 4 [(0, .ref (a 0)), (1, .int (nI (p9 + 1) - 1)), (2, .int mo), (3, .int (nI r))] → gGo l p e s m below meth c D t A 0 [.ref (a 0)] (wMd t a) (fun r u => r = (mNext σ np np).2 ∧ u = (mNext σ np np).1) H locs (F0 m 15 ls []) := by
    intro n
    induction n with
    | zero =>
      intro p9 r mo H locs ls hr1 hp8 hf hmo hX hP hD hS hl
      exact absurd hf (by omega)
    | succ n ih =>
      intro p9 r mo H locs ls hr1 hp8 hf hmo hX hP hD hS hl
      refine lv_iload_n hx hb d_Md_next_15 rfl (lv_at hl 3 rfl) ?_
      refine lv_iload_n hx hb d_Md_next_16 rfl (lv_at hl 1 rfl) ?_
      refine lv_topi (fun v_3 e_3 => ?_)
      obtain rfl : v_3 = nI p9 := e_3.trans (nI_pred p9)
      refine lv_icmp_ge (tgt := 47) hx hb d_Md_next_17 (by decide) (fun c_4 => ?_) (fun c_4 => ?_)
      · 
        have h_4 : p9 ≤ r := (nI_leI (a := p9) (b := r) (by omega) (by omega)).mp c_4
        obtain rfl : r = p9 := by omega
        subst hmo
        exact hX _ _ _  hP hD hS (lv_sub hl [0, 1, 2] rfl)
      · 
        have h_4 : ¬ p9 ≤ r := fun q9 => c_4 ((nI_leI (a := p9) (b := r) (by omega) (by omega)).mpr q9)
        refine lv_aload_n hx hb d_Md_next_20 rfl (lv_at hl 0 rfl) ?_
        refine va_get (D := D) (ci := 7) (v := .ref (a 27)) (C := R_Md) (T := F_Md) (N := 34) hx hb hts (fun w h => List.mem_cons_of_mem _ (i_Md w h)) hown hK.1 hP 0 (wMd_0 t a σ) rfl 27 (by decide) (hts (.fieldLink R_Md 71 "FlatBoxesModel" "trial" "[I") (List.mem_cons_of_mem _ (gIn k_693 (by decide +kernel)))) (fun _ h9 => h9) rfl d_Md_next_21 ?_
        refine lv_iload_n hx hb d_Md_next_24 rfl (lv_at hl 3 rfl) ?_
        refine g_iald hx hb hK.1 hP 21 0 (wMd_27 t a σ) rfl r (rfl) (by omega) (by decide) d_Md_next_25 ?_
        refine lv_iload_n hx hb d_Md_next_26 rfl (lv_at hl 2 rfl) ?_
        refine lv_icmp_le (tgt := 39) hx hb d_Md_next_27 (by decide) (fun c_5 => ?_) (fun c_5 => ?_)
        · 
          refine lv_iload_n hx hb d_Md_next_39 rfl (lv_at hl 2 rfl) ?_
          refine lv_istore_n (lv' := [(2, .int mo), (0, .ref (a 0)), (1, .int (nI (p9 + 1) - 1)), (3, .int (nI r))]) hx hb d_Md_next_40 rfl hl (by decide) rfl (fun ls hl => ?_)
          refine lv_iinc (v := nI (r + 1)) (lv' := [(3, .int (nI (r + 1))), (2, .int mo), (0, .ref (a 0)), (1, .int (nI (p9 + 1) - 1))]) hx hb d_Md_next_41 hl (k := 3) rfl (nI_1 r) (by decide) rfl (fun ls hl => ?_)
          refine lv_goto (tgt := 15) hx hb d_Md_next_44 (by decide) ?_
          exact ih p9 (r + 1) mo _ _ _ (by omega) (by omega) (by omega) (by first | (rw [hmo]; simp [mMost, ← hmo, c_4, h_4, c_5]; done) | (subst hmo; simp [mMost, c_4, h_4, c_5])) hX hP hD hS (lv_sub hl [2, 3, 1, 0] rfl)
        · 
          refine lv_aload_n hx hb d_Md_next_30 rfl (lv_at hl 0 rfl) ?_
          refine va_get (D := D) (ci := 7) (v := .ref (a 27)) (C := R_Md) (T := F_Md) (N := 34) hx hb hts (fun w h => List.mem_cons_of_mem _ (i_Md w h)) hown hK.1 hP 0 (wMd_0 t a σ) rfl 27 (by decide) (hts (.fieldLink R_Md 71 "FlatBoxesModel" "trial" "[I") (List.mem_cons_of_mem _ (gIn k_693 (by decide +kernel)))) (fun _ h9 => h9) rfl d_Md_next_31 ?_
          refine lv_iload_n hx hb d_Md_next_34 rfl (lv_at hl 3 rfl) ?_
          refine g_iald hx hb hK.1 hP 21 0 (wMd_27 t a σ) rfl r (rfl) (by omega) (by decide) d_Md_next_35 ?_
          refine lv_goto (tgt := 40) hx hb d_Md_next_36 (by decide) ?_
          refine lv_istore_n (lv' := [(2, .int (σ 27 r)), (0, .ref (a 0)), (1, .int (nI (p9 + 1) - 1)), (3, .int (nI r))]) hx hb d_Md_next_40 rfl hl (by decide) rfl (fun ls hl => ?_)
          refine lv_iinc (v := nI (r + 1)) (lv' := [(3, .int (nI (r + 1))), (2, .int (σ 27 r)), (0, .ref (a 0)), (1, .int (nI (p9 + 1) - 1))]) hx hb d_Md_next_41 hl (k := 3) rfl (nI_1 r) (by decide) rfl (fun ls hl => ?_)
          refine lv_goto (tgt := 15) hx hb d_Md_next_44 (by decide) ?_
          exact ih p9 (r + 1) (σ 27 r) _ _ _ (by omega) (by omega) (by omega) (by first | (rw [hmo]; simp [mMost, ← hmo, c_4, h_4, c_5]; done) | (subst hmo; simp [mMost, c_4, h_4, c_5])) hX hP hD hS (lv_sub hl [2, 3, 1, 0] rfl)
  have cut_7 : ∀ (n : Nat) (d : Nat) (H : Heap) (locs : List Loc) (ls : Array Slot), (d ≤ np) → (d + 1 ≤ n) → (mNext σ np np = mNext σ np d) → va_P D gCl (wMd t a σ) H → va_D A (wMd t a σ) → va_S A s.heap H locs → lv_has ls 4 [(0, .ref (a 0)), (1, .int (nI d - 1))] → gGo l p e s m below meth c D t A 0 [.ref (a 0)] (wMd t a) (fun r u => r = (mNext σ np np).2 ∧ u = (mNext σ np np).1) H locs (F0 m 7 ls []) := by
    intro n
    induction n with
    | zero =>
      intro d H locs ls hd hf hs hP hD hS hl
      exact absurd hf (by omega)
    | succ n ih =>
      intro d H locs ls hd hf hs hP hD hS hl
      refine lv_iload_n hx hb d_Md_next_7 rfl (lv_at hl 1 rfl) ?_
      refine lv_if_le (tgt := 100) hx hb d_Md_next_8 (by decide) (fun c_6 => ?_) (fun c_6 => ?_)
      · 
        have hd1 : d ≤ 1 := (gDle d (by omega)).mp c_6
        refine lv_iconst (v := 0) hx hb d_Md_next_100 (by decide) ?_
        exact W.zret (v := 0) (ty := .boolean) hx hb hr (rfl) (fun U hU hW => ⟨⟨0, σ, rfl, by rcases (show d = 0 ∨ d = 1 by omega) with rfl | rfl <;> exact ⟨by rw [hs]; rfl, by rw [hs]; rfl⟩, by rw [hU]; exact hP, hD⟩, hS.F hU⟩) hS.2.2 d_Md_next_101
      · 
        have hd1 : ¬ d ≤ 1 := fun q9 => c_6 ((gDle d (by omega)).mpr q9)
        obtain ⟨p9, rfl⟩ : ∃ p9, d = p9 + 1 := ⟨d - 1, by omega⟩
        refine lv_iconst (v := 0) hx hb d_Md_next_11 (by decide) ?_
        refine lv_istore_n (lv' := [(2, .int 0), (0, .ref (a 0)), (1, .int (nI (p9 + 1) - 1))]) hx hb d_Md_next_12 rfl hl (by decide) rfl (fun ls hl => ?_)
        refine lv_iconst (v := 0) hx hb d_Md_next_13 (by decide) ?_
        refine lv_istore_n (lv' := [(3, .int 0), (2, .int 0), (0, .ref (a 0)), (1, .int (nI (p9 + 1) - 1))]) hx hb d_Md_next_14 rfl hl (by decide) rfl (fun ls hl => ?_)
        refine cut_15 (p9 + 1) p9 0 0 _ _ _ (by omega) (by omega) (by omega) (rfl) (fun H locs ls  hP hD hS hl => ?_) hP hD hS (lv_sub hl [2, 3, 1, 0] rfl)
        refine lv_aload_n hx hb d_Md_next_47 rfl (lv_at hl 0 rfl) ?_
        refine va_get (D := D) (ci := 7) (v := .ref (a 27)) (C := R_Md) (T := F_Md) (N := 34) hx hb hts (fun w h => List.mem_cons_of_mem _ (i_Md w h)) hown hK.1 hP 0 (wMd_0 t a σ) rfl 27 (by decide) (hts (.fieldLink R_Md 71 "FlatBoxesModel" "trial" "[I") (List.mem_cons_of_mem _ (gIn k_693 (by decide +kernel)))) (fun _ h9 => h9) rfl d_Md_next_48 ?_
        refine lv_iload_n hx hb d_Md_next_51 rfl (lv_at hl 1 rfl) ?_
        refine lv_topi (fun v_7 e_7 => ?_)
        obtain rfl : v_7 = nI p9 := e_7.trans (nI_pred p9)
        refine g_iald hx hb hK.1 hP 21 0 (wMd_27 t a σ) rfl p9 (rfl) (by omega) (by decide) d_Md_next_52 ?_
        refine lv_iload_n hx hb d_Md_next_53 rfl (lv_at hl 2 rfl) ?_
        refine lv_icmp_gt (tgt := 94) hx hb d_Md_next_54 (by decide) (fun c_8 => ?_) (fun c_8 => ?_)
        · 
          refine lv_iinc (v := nI p9 - 1) (lv' := [(1, .int (nI p9 - 1)), (0, .ref (a 0)), (2, .int (mMost (σ 27) p9))]) hx hb d_Md_next_94 hl (k := 1) rfl (by rw [nI_pred]; exact gM1 _) (by decide) rfl (fun ls hl => ?_)
          refine lv_goto (tgt := 7) hx hb d_Md_next_97 (by decide) ?_
          exact ih p9 _ _ _ (by omega) (by omega) (by rw [hs]; simp [mNext, (show ¬ p9 = 0 by omega), c_6, c_8]) hP hD hS (lv_sub hl [1, 0] rfl)
        · 
          refine lv_aload_n hx hb d_Md_next_57 rfl (lv_at hl 0 rfl) ?_
          refine va_get (D := D) (ci := 7) (v := .ref (a 27)) (C := R_Md) (T := F_Md) (N := 34) hx hb hts (fun w h => List.mem_cons_of_mem _ (i_Md w h)) hown hK.1 hP 0 (wMd_0 t a σ) rfl 27 (by decide) (hts (.fieldLink R_Md 71 "FlatBoxesModel" "trial" "[I") (List.mem_cons_of_mem _ (gIn k_693 (by decide +kernel)))) (fun _ h9 => h9) rfl d_Md_next_58 ?_
          refine lv_iload_n hx hb d_Md_next_61 rfl (lv_at hl 1 rfl) ?_
          refine lv_topi (fun v_9 e_9 => ?_)
          obtain rfl : v_9 = nI p9 := e_9.trans (nI_pred p9)
          refine lv_dup2_11 hx hb d_Md_next_62 rfl rfl ?_
          refine g_iald hx hb hK.1 hP 21 0 (wMd_27 t a σ) rfl p9 (rfl) (by omega) (by decide) d_Md_next_63 ?_
          refine lv_iconst (v := 1) hx hb d_Md_next_64 (by decide) ?_
          refine lv_iadd hx hb d_Md_next_65 ?_
          refine g_iast hx hb hK.1 hP hD hS 21 0 (wMd_27 t a σ) rfl p9 (rfl) (by omega) (by decide) (w' := wMd t a (gSt σ 27 p9 ((σ 27 p9) + 1))) (sMd_27 t a σ p9 ((σ 27 p9) + 1)) d_Md_next_66 (fun H locs hP hD hS => ?_)
          refine lv_iload_n hx hb d_Md_next_67 rfl (lv_at hl 1 rfl) ?_
          refine lv_topi (fun v_10 e_10 => ?_)
          obtain rfl : v_10 = nI p9 := e_10.trans (nI_pred p9)
          refine lv_iconst (v := 1) hx hb d_Md_next_68 (by decide) ?_
          refine lv_iadd hx hb d_Md_next_69 ?_
          refine lv_topi (fun v_11 e_11 => ?_)
          obtain rfl : v_11 = nI (p9 + 1) := e_11.trans (nI_1 _)
          refine lv_istore_n (lv' := [(3, .int (nI (p9 + 1))), (0, .ref (a 0)), (1, .int (nI (p9 + 1) - 1)), (2, .int (mMost (σ 27) p9))]) hx hb d_Md_next_70 rfl hl (by decide) rfl (fun ls hl => ?_)
          exact cut_71 (np + 1) p9 0 (gSt σ 27 p9 ((σ 27 p9) + 1)) (gSt σ 27 p9 ((σ 27 p9) + 1)) _ _ _ (by omega) (by omega) (rfl) (hN) (by rw [hs]; simp [mNext, (show ¬ p9 = 0 by omega), c_6, c_8]) hP hD hS (lv_sub hl [1, 0] rfl)
  refine lv_aload_n hx hb d_Md_next_0 rfl (lv_at hl 0 rfl) ?_
  refine va_get (D := D) (ci := 7) (v := .int (σ 8 0)) (C := R_Md) (T := F_Md) (N := 34) hx hb hts (fun w h => List.mem_cons_of_mem _ (i_Md w h)) hown hK.1 hP 0 (wMd_0 t a σ) rfl 8 (by decide) (hts (.fieldLink R_Md 113 "FlatBoxesModel" "parts" "I") (List.mem_cons_of_mem _ (gIn k_674 (by decide +kernel)))) (fun _ h9 => h9) rfl d_Md_next_1 ?_
  refine lv_topi (fun v_12 e_12 => ?_)
  obtain rfl : v_12 = nI np := e_12.trans hN
  refine lv_iconst (v := 1) hx hb d_Md_next_4 (by decide) ?_
  refine lv_isub hx hb d_Md_next_5 ?_
  refine lv_istore_n (lv' := [(1, .int ((nI np) - 1)), (0, .ref (a 0))]) hx hb d_Md_next_6 rfl hl (by decide) rfl (fun ls hl => ?_)
  exact cut_7 (np + 1) np _ _ _ (by omega) (by omega) (rfl) hP hD hS (lv_sub hl [1, 0] rfl)
end
section
def mBagR (nb : Nat) : Int32 := if nb = 4 then 0 else nI nb
def mBagU (σ : Nat → Nat → Int32) (nb : Nat) : Nat → Nat → Int32 := if nb = 4 then gSt σ 0 0 1 else gSt (gSt σ 0 0 0) 29 0 (nI (nb + 1))
def mBelow (σ : Nat → Nat → Int32) (x y : Nat) : Int32 := if σ 22 x = σ 22 y then (if σ 21 x = σ 21 y then (if σ 20 x = σ 20 y then (if y ≤ x then 0 else 1) else if σ 20 x ≤ σ 20 y then 0 else 1) else if σ 21 x ≤ σ 21 y then 0 else 1) else σ 22 y
def mAll (w d h c g gm : Int32) (s0 sm : Int32) : Int32 := if mSide w = 0 then 0 else if mSide d = 0 then 0 else if mSide h = 0 then 0 else if mIn c 1 gm = 0 then 0 else if mIn g s0 sm = 0 then 0 else 1
def mCartonC (nc : Nat) (w d h c g : Int32) : Int32 := if mAll w d h c g 100000 1 100000 = 0 then 1 else if nc = 4 then 2 else 0
def mCartonR (nc : Nat) (w d h c g : Int32) : Int32 := if mCartonC nc w d h c g = 0 then nI nc else 0
def mCartonU (σ : Nat → Nat → Int32) (nc : Nat) (w d h c g : Int32) : Nat → Nat → Int32 := if mCartonC nc w d h c g = 0 then gSt (gSt (gSt (gSt (gSt (gSt (gSt (gSt σ 0 0 0) 3 nc w) 4 nc d) 5 nc h) 6 nc c) 7 nc g) 2 0 (nI (nc + 1))) 24 0 0 else gSt σ 0 0 (mCartonC nc w d h c g)
def mPartC (np : Nat) (w d h g st : Int32) : Int32 := if mAll w d h g st 50000 0 50 = 0 then 1 else if np = 8 then 2 else 0
def mPartR (np : Nat) (w d h g st : Int32) : Int32 := if mPartC np w d h g st = 0 then nI np else 0
def mPartU (σ : Nat → Nat → Int32) (np : Nat) (w d h g st : Int32) : Nat → Nat → Int32 := if mPartC np w d h g st = 0 then gSt (gSt (gSt (gSt (gSt (gSt (gSt (gSt (gSt σ 0 0 0) 9 np w) 10 np d) 11 np h) 12 np g) 13 np st) 14 np 0) 8 0 (nI (np + 1))) 24 0 0 else gSt σ 0 0 (mPartC np w d h g st)


set_option maxHeartbeats 4000000 in
set_option maxRecDepth 100000 in
theorem c_Md_bag (l : Launch) (D : va_G) (t : Nat → ClassId) (a : Nat → Nat) (σ : Nat → Nat → Int32) (nb : Nat) (hB : σ 29 0 = nI nb) (hB4 : nb ≤ 4) : gMi l D t y_Md_bag b_Md_bag 1 (some .int) 0 [.ref (a 0)] (wMd t a σ) (wMd t a) (fun r u => r = mBagR nb ∧ u = mBagU σ nb) := by
  intro A
  refine Met.ofW (cc := b_Md_bag) (maxL := 1) (ret := (some .int)) (by decide) rfl ?_
  intro p e s m args below meth c s₁ B hml hv
  obtain ⟨rfl, hK, hP, hD⟩ := hv
  have hx := B.exec
  have hb := B.bytes
  have hr := B.returns
  have hts := atoms_spec (ws := .code y_Md_bag b_Md_bag 1 (some .int) :: gBig) B.pre
  have hown : s.vm.findClass R_Md = some m.cls := findClass_of_methodNamed B.named
  have hlocks := B.notSynchronized
  have hS : va_S A s.heap s.heap [] := va_S.rf
  have hl := lv_entry ([.ref (a 0)]) (n := 1) (Nat.le_of_ble_eq_true rfl)
  rw [lg_entry_eq]
  generalize (lg_sl ([.ref (a 0)]) ++ List.replicate (1 - (lg_sl ([.ref (a 0)])).length) Slot.unset).toArray = ls at hl ⊢
  have hl : lv_has ls 1 [(0, .ref (a 0))] := hl
  show gGo l p e s m below meth c D t A 0 [.ref (a 0)] (wMd t a) (fun r u => r = mBagR nb ∧ u = mBagU σ nb) s.heap [] (F0 m 0 ls [])
  refine lv_aload_n hx hb d_Md_bag_0 rfl (lv_at hl 0 rfl) ?_
  refine lv_aload_n hx hb d_Md_bag_1 rfl (lv_at hl 0 rfl) ?_
  refine va_get (D := D) (ci := 7) (v := .int (σ 29 0)) (C := R_Md) (T := F_Md) (N := 34) hx hb hts (fun w h => List.mem_cons_of_mem _ (i_Md w h)) hown hK.1 hP 0 (wMd_0 t a σ) rfl 29 (by decide) (hts (.fieldLink R_Md 164 "FlatBoxesModel" "bags" "I") (List.mem_cons_of_mem _ (gIn k_695 (by decide +kernel)))) (fun _ h9 => h9) rfl d_Md_bag_2 ?_
  refine lv_topi (fun v_1 e_1 => ?_)
  obtain rfl : v_1 = nI nb := e_1.trans hB
  refine lv_iconst (v := 4) hx hb d_Md_bag_5 (by decide) ?_
  refine lv_icmp_ne (tgt := 13) hx hb d_Md_bag_6 (by decide) (fun c_2 => ?_) (fun c_2 => ?_)
  · 
    have h_2 : ¬ nb = 4 := fun q9 => c_2 ((nI_eq (a := nb) (b := 4) (by omega) (by omega)).mpr q9)
    refine lv_iconst (v := 0) hx hb d_Md_bag_13 (by decide) ?_
    refine va_put (D := D) (ci := 7) (v := .int 0) (ty := .int) (C := R_Md) (T := F_Md) (N := 34) hx hb hts (fun w h => List.mem_cons_of_mem _ (i_Md w h)) t_Md t_Md_ok n_Md hown hK.1 hP hD hS 0 (wMd_0 t a σ) rfl 0 (by decide) (hts (.fieldLink R_Md 93 "FlatBoxesModel" "code" "I") (List.mem_cons_of_mem _ (gIn k_666 (by decide +kernel)))) (fun _ h9 => h9) rfl (by decide +kernel) rfl rfl (Nat.le_of_ble_eq_true rfl) d_Md_bag_14 (fun H locs hP hD hS => ?_)
    have hP : va_P D gCl (wMd t a (gSt σ 0 0 0)) H := hP
    have hD : va_D A (wMd t a (gSt σ 0 0 0)) := hD
    refine lv_aload_n hx hb d_Md_bag_17 rfl (lv_at hl 0 rfl) ?_
    refine va_get (D := D) (ci := 7) (v := .int ((gSt σ 0 0 0) 0 0)) (C := R_Md) (T := F_Md) (N := 34) hx hb hts (fun w h => List.mem_cons_of_mem _ (i_Md w h)) hown hK.1 hP 0 (wMd_0 t a (gSt σ 0 0 0)) rfl 0 (by decide) (hts (.fieldLink R_Md 93 "FlatBoxesModel" "code" "I") (List.mem_cons_of_mem _ (gIn k_666 (by decide +kernel)))) (fun _ h9 => h9) rfl d_Md_bag_18 ?_
    refine lv_topi (fun v_3 e_3 => ?_)
    obtain rfl : v_3 = 0 := e_3.trans (rfl)
    refine lv_if_le (tgt := 26) hx hb d_Md_bag_21 (by decide) (fun c_4 => ?_) (fun c_4 => ?_)
    · 
      refine lv_aload_n hx hb d_Md_bag_26 rfl (lv_at hl 0 rfl) ?_
      refine lv_dup hx hb d_Md_bag_27 rfl ?_
      refine va_get (D := D) (ci := 7) (v := .int ((gSt σ 0 0 0) 29 0)) (C := R_Md) (T := F_Md) (N := 34) hx hb hts (fun w h => List.mem_cons_of_mem _ (i_Md w h)) hown hK.1 hP 0 (wMd_0 t a (gSt σ 0 0 0)) rfl 29 (by decide) (hts (.fieldLink R_Md 164 "FlatBoxesModel" "bags" "I") (List.mem_cons_of_mem _ (gIn k_695 (by decide +kernel)))) (fun _ h9 => h9) rfl d_Md_bag_28 ?_
      refine lv_topi (fun v_5 e_5 => ?_)
      obtain rfl : v_5 = nI nb := e_5.trans hB
      refine lv_iconst (v := 1) hx hb d_Md_bag_31 (by decide) ?_
      refine lv_iadd hx hb d_Md_bag_32 ?_
      refine lv_topi (fun v_6 e_6 => ?_)
      obtain rfl : v_6 = nI (nb + 1) := e_6.trans (nI_1 _)
      refine va_put (D := D) (ci := 7) (v := .int (nI (nb + 1))) (ty := .int) (C := R_Md) (T := F_Md) (N := 34) hx hb hts (fun w h => List.mem_cons_of_mem _ (i_Md w h)) t_Md t_Md_ok n_Md hown hK.1 hP hD hS 0 (wMd_0 t a (gSt σ 0 0 0)) rfl 29 (by decide) (hts (.fieldLink R_Md 164 "FlatBoxesModel" "bags" "I") (List.mem_cons_of_mem _ (gIn k_695 (by decide +kernel)))) (fun _ h9 => h9) rfl (by decide +kernel) rfl rfl (Nat.le_of_ble_eq_true rfl) d_Md_bag_33 (fun H locs hP hD hS => ?_)
      have hP : va_P D gCl (wMd t a (gSt (gSt σ 0 0 0) 29 0 (nI (nb + 1)))) H := hP
      have hD : va_D A (wMd t a (gSt (gSt σ 0 0 0) 29 0 (nI (nb + 1)))) := hD
      refine lv_aload_n hx hb d_Md_bag_36 rfl (lv_at hl 0 rfl) ?_
      refine va_get (D := D) (ci := 7) (v := .int ((gSt (gSt σ 0 0 0) 29 0 (nI (nb + 1))) 29 0)) (C := R_Md) (T := F_Md) (N := 34) hx hb hts (fun w h => List.mem_cons_of_mem _ (i_Md w h)) hown hK.1 hP 0 (wMd_0 t a (gSt (gSt σ 0 0 0) 29 0 (nI (nb + 1)))) rfl 29 (by decide) (hts (.fieldLink R_Md 164 "FlatBoxesModel" "bags" "I") (List.mem_cons_of_mem _ (gIn k_695 (by decide +kernel)))) (fun _ h9 => h9) rfl d_Md_bag_37 ?_
      refine lv_topi (fun v_7 e_7 => ?_)
      obtain rfl : v_7 = nI (nb + 1) := e_7.trans (rfl)
      refine lv_iconst (v := 1) hx hb d_Md_bag_40 (by decide) ?_
      refine lv_isub hx hb d_Md_bag_41 ?_
      refine lv_topi (fun v_8 e_8 => ?_)
      obtain rfl : v_8 = nI nb := e_8.trans (nI_pred nb)
      exact W.iret (v := nI nb) hx hb hr (fun U hU hW => ⟨⟨nI nb, gSt (gSt σ 0 0 0) 29 0 (nI (nb + 1)), rfl, by exact ⟨by simp [mBagR, c_2, h_2, c_4], by simp [mBagU, c_2, h_2, c_4]⟩, by rw [hU]; exact hP, hD⟩, hS.F hU⟩) hS.2.2 d_Md_bag_42
    · 
      exact absurd c_4 (by decide)
  · 
    have h_2 : nb = 4 := (nI_eq (a := nb) (b := 4) (by omega) (by omega)).mp c_2
    refine lv_iconst (v := 1) hx hb d_Md_bag_9 (by decide) ?_
    refine lv_goto (tgt := 14) hx hb d_Md_bag_10 (by decide) ?_
    refine va_put (D := D) (ci := 7) (v := .int 1) (ty := .int) (C := R_Md) (T := F_Md) (N := 34) hx hb hts (fun w h => List.mem_cons_of_mem _ (i_Md w h)) t_Md t_Md_ok n_Md hown hK.1 hP hD hS 0 (wMd_0 t a σ) rfl 0 (by decide) (hts (.fieldLink R_Md 93 "FlatBoxesModel" "code" "I") (List.mem_cons_of_mem _ (gIn k_666 (by decide +kernel)))) (fun _ h9 => h9) rfl (by decide +kernel) rfl rfl (Nat.le_of_ble_eq_true rfl) d_Md_bag_14 (fun H locs hP hD hS => ?_)
    have hP : va_P D gCl (wMd t a (gSt σ 0 0 1)) H := hP
    have hD : va_D A (wMd t a (gSt σ 0 0 1)) := hD
    refine lv_aload_n hx hb d_Md_bag_17 rfl (lv_at hl 0 rfl) ?_
    refine va_get (D := D) (ci := 7) (v := .int ((gSt σ 0 0 1) 0 0)) (C := R_Md) (T := F_Md) (N := 34) hx hb hts (fun w h => List.mem_cons_of_mem _ (i_Md w h)) hown hK.1 hP 0 (wMd_0 t a (gSt σ 0 0 1)) rfl 0 (by decide) (hts (.fieldLink R_Md 93 "FlatBoxesModel" "code" "I") (List.mem_cons_of_mem _ (gIn k_666 (by decide +kernel)))) (fun _ h9 => h9) rfl d_Md_bag_18 ?_
    refine lv_topi (fun v_9 e_9 => ?_)
    obtain rfl : v_9 = 1 := e_9.trans (rfl)
    refine lv_if_le (tgt := 26) hx hb d_Md_bag_21 (by decide) (fun c_10 => ?_) (fun c_10 => ?_)
    · 
      exact absurd c_10 (by decide)
    · 
      refine lv_iconst (v := 0) hx hb d_Md_bag_24 (by decide) ?_
      exact W.iret (v := 0) hx hb hr (fun U hU hW => ⟨⟨0, gSt σ 0 0 1, rfl, by exact ⟨by simp [mBagR, c_2, h_2, c_10], by simp [mBagU, c_2, h_2, c_10]⟩, by rw [hU]; exact hP, hD⟩, hS.F hU⟩) hS.2.2 d_Md_bag_25
set_option maxHeartbeats 4000000 in
set_option maxRecDepth 100000 in
theorem c_Md_isBelow (l : Launch) (D : va_G) (t : Nat → ClassId) (a : Nat → Nat) (σ : Nat → Nat → Int32) (x y : Nat) (hx8 : x < 8) (hy8 : y < 8) (h22 : ∀ i, σ 22 i = 0 ∨ σ 22 i = 1) : gMi l D t y_Md_isBelow b_Md_isBelow 3 (some .boolean) 0 [.ref (a 0), .int (nI x), .int (nI y)] (wMd t a σ) (wMd t a) (fun r u => r = mBelow σ x y ∧ u = σ) := by
  intro A
  refine Met.ofW (cc := b_Md_isBelow) (maxL := 3) (ret := (some .boolean)) (by decide) rfl ?_
  intro p e s m args below meth c s₁ B hml hv
  obtain ⟨rfl, hK, hP, hD⟩ := hv
  have hx := B.exec
  have hb := B.bytes
  have hr := B.returns
  have hts := atoms_spec (ws := .code y_Md_isBelow b_Md_isBelow 3 (some .boolean) :: gBig) B.pre
  have hown : s.vm.findClass R_Md = some m.cls := findClass_of_methodNamed B.named
  have hlocks := B.notSynchronized
  have hS : va_S A s.heap s.heap [] := va_S.rf
  have hl := lv_entry ([.ref (a 0), .int (nI x), .int (nI y)]) (n := 3) (Nat.le_of_ble_eq_true rfl)
  rw [lg_entry_eq]
  generalize (lg_sl ([.ref (a 0), .int (nI x), .int (nI y)]) ++ List.replicate (3 - (lg_sl ([.ref (a 0), .int (nI x), .int (nI y)])).length) Slot.unset).toArray = ls at hl ⊢
  have hl : lv_has ls 3 [(0, .ref (a 0)), (1, .int (nI x)), (2, .int (nI y))] := hl
  show gGo l p e s m below meth c D t A 0 [.ref (a 0), .int (nI x), .int (nI y)] (wMd t a) (fun r u => r = mBelow σ x y ∧ u = σ) s.heap [] (F0 m 0 ls [])
  refine lv_aload_n hx hb d_Md_isBelow_0 rfl (lv_at hl 0 rfl) ?_
  refine va_get (D := D) (ci := 7) (v := .ref (a 22)) (C := R_Md) (T := F_Md) (N := 34) hx hb hts (fun w h => List.mem_cons_of_mem _ (i_Md w h)) hown hK.1 hP 0 (wMd_0 t a σ) rfl 22 (by decide) (hts (.fieldLink R_Md 62 "FlatBoxesModel" "breaks" "[Z") (List.mem_cons_of_mem _ (gIn k_688 (by decide +kernel)))) (fun _ h9 => h9) rfl d_Md_isBelow_1 ?_
  refine lv_iload_n hx hb d_Md_isBelow_4 rfl (lv_at hl 1 rfl) ?_
  refine g_zald hx hb hK.1 hP 18 1 (wMd_22 t a σ) rfl x (rfl) (by omega) (by decide) d_Md_isBelow_5 ?_
  refine lv_aload_n hx hb d_Md_isBelow_6 rfl (lv_at hl 0 rfl) ?_
  refine va_get (D := D) (ci := 7) (v := .ref (a 22)) (C := R_Md) (T := F_Md) (N := 34) hx hb hts (fun w h => List.mem_cons_of_mem _ (i_Md w h)) hown hK.1 hP 0 (wMd_0 t a σ) rfl 22 (by decide) (hts (.fieldLink R_Md 62 "FlatBoxesModel" "breaks" "[Z") (List.mem_cons_of_mem _ (gIn k_688 (by decide +kernel)))) (fun _ h9 => h9) rfl d_Md_isBelow_7 ?_
  refine lv_iload_n hx hb d_Md_isBelow_10 rfl (lv_at hl 2 rfl) ?_
  refine g_zald hx hb hK.1 hP 18 1 (wMd_22 t a σ) rfl y (rfl) (by omega) (by decide) d_Md_isBelow_11 ?_
  refine lv_icmp_eq (tgt := 22) hx hb d_Md_isBelow_12 (by decide) (fun c_1 => ?_) (fun c_1 => ?_)
  · 
    refine lv_aload_n hx hb d_Md_isBelow_22 rfl (lv_at hl 0 rfl) ?_
    refine va_get (D := D) (ci := 7) (v := .ref (a 21)) (C := R_Md) (T := F_Md) (N := 34) hx hb hts (fun w h => List.mem_cons_of_mem _ (i_Md w h)) hown hK.1 hP 0 (wMd_0 t a σ) rfl 21 (by decide) (hts (.fieldLink R_Md 59 "FlatBoxesModel" "firsts" "[I") (List.mem_cons_of_mem _ (gIn k_687 (by decide +kernel)))) (fun _ h9 => h9) rfl d_Md_isBelow_23 ?_
    refine lv_iload_n hx hb d_Md_isBelow_26 rfl (lv_at hl 1 rfl) ?_
    refine g_iald hx hb hK.1 hP 17 0 (wMd_21 t a σ) rfl x (rfl) (by omega) (by decide) d_Md_isBelow_27 ?_
    refine lv_aload_n hx hb d_Md_isBelow_28 rfl (lv_at hl 0 rfl) ?_
    refine va_get (D := D) (ci := 7) (v := .ref (a 21)) (C := R_Md) (T := F_Md) (N := 34) hx hb hts (fun w h => List.mem_cons_of_mem _ (i_Md w h)) hown hK.1 hP 0 (wMd_0 t a σ) rfl 21 (by decide) (hts (.fieldLink R_Md 59 "FlatBoxesModel" "firsts" "[I") (List.mem_cons_of_mem _ (gIn k_687 (by decide +kernel)))) (fun _ h9 => h9) rfl d_Md_isBelow_29 ?_
    refine lv_iload_n hx hb d_Md_isBelow_32 rfl (lv_at hl 2 rfl) ?_
    refine g_iald hx hb hK.1 hP 17 0 (wMd_21 t a σ) rfl y (rfl) (by omega) (by decide) d_Md_isBelow_33 ?_
    refine lv_icmp_eq (tgt := 58) hx hb d_Md_isBelow_34 (by decide) (fun c_2 => ?_) (fun c_2 => ?_)
    · 
      refine lv_aload_n hx hb d_Md_isBelow_58 rfl (lv_at hl 0 rfl) ?_
      refine va_get (D := D) (ci := 7) (v := .ref (a 20)) (C := R_Md) (T := F_Md) (N := 34) hx hb hts (fun w h => List.mem_cons_of_mem _ (i_Md w h)) hown hK.1 hP 0 (wMd_0 t a σ) rfl 20 (by decide) (hts (.fieldLink R_Md 56 "FlatBoxesModel" "weights" "[I") (List.mem_cons_of_mem _ (gIn k_686 (by decide +kernel)))) (fun _ h9 => h9) rfl d_Md_isBelow_59 ?_
      refine lv_iload_n hx hb d_Md_isBelow_62 rfl (lv_at hl 1 rfl) ?_
      refine g_iald hx hb hK.1 hP 16 0 (wMd_20 t a σ) rfl x (rfl) (by omega) (by decide) d_Md_isBelow_63 ?_
      refine lv_aload_n hx hb d_Md_isBelow_64 rfl (lv_at hl 0 rfl) ?_
      refine va_get (D := D) (ci := 7) (v := .ref (a 20)) (C := R_Md) (T := F_Md) (N := 34) hx hb hts (fun w h => List.mem_cons_of_mem _ (i_Md w h)) hown hK.1 hP 0 (wMd_0 t a σ) rfl 20 (by decide) (hts (.fieldLink R_Md 56 "FlatBoxesModel" "weights" "[I") (List.mem_cons_of_mem _ (gIn k_686 (by decide +kernel)))) (fun _ h9 => h9) rfl d_Md_isBelow_65 ?_
      refine lv_iload_n hx hb d_Md_isBelow_68 rfl (lv_at hl 2 rfl) ?_
      refine g_iald hx hb hK.1 hP 16 0 (wMd_20 t a σ) rfl y (rfl) (by omega) (by decide) d_Md_isBelow_69 ?_
      refine lv_icmp_eq (tgt := 96) hx hb d_Md_isBelow_70 (by decide) (fun c_3 => ?_) (fun c_3 => ?_)
      · 
        refine lv_iload_n hx hb d_Md_isBelow_96 rfl (lv_at hl 1 rfl) ?_
        refine lv_iload_n hx hb d_Md_isBelow_97 rfl (lv_at hl 2 rfl) ?_
        refine lv_icmp_ge (tgt := 105) hx hb d_Md_isBelow_98 (by decide) (fun c_4 => ?_) (fun c_4 => ?_)
        · 
          have h_4 : y ≤ x := (nI_leI (a := y) (b := x) (by omega) (by omega)).mp c_4
          refine lv_iconst (v := 0) hx hb d_Md_isBelow_105 (by decide) ?_
          exact W.zret (v := 0) (ty := .boolean) hx hb hr (rfl) (fun U hU hW => ⟨⟨0, σ, rfl, by exact ⟨by simp [mBelow, c_1, c_2, c_3, c_4, h_4], rfl⟩, by rw [hU]; exact hP, hD⟩, hS.F hU⟩) hS.2.2 d_Md_isBelow_106
        · 
          have h_4 : ¬ y ≤ x := fun q9 => c_4 ((nI_leI (a := y) (b := x) (by omega) (by omega)).mpr q9)
          refine lv_iconst (v := 1) hx hb d_Md_isBelow_101 (by decide) ?_
          refine lv_goto (tgt := 106) hx hb d_Md_isBelow_102 (by decide) ?_
          exact W.zret (v := 1) (ty := .boolean) hx hb hr (rfl) (fun U hU hW => ⟨⟨1, σ, rfl, by exact ⟨by simp [mBelow, c_1, c_2, c_3, c_4, h_4], rfl⟩, by rw [hU]; exact hP, hD⟩, hS.F hU⟩) hS.2.2 d_Md_isBelow_106
      · 
        refine lv_aload_n hx hb d_Md_isBelow_73 rfl (lv_at hl 0 rfl) ?_
        refine va_get (D := D) (ci := 7) (v := .ref (a 20)) (C := R_Md) (T := F_Md) (N := 34) hx hb hts (fun w h => List.mem_cons_of_mem _ (i_Md w h)) hown hK.1 hP 0 (wMd_0 t a σ) rfl 20 (by decide) (hts (.fieldLink R_Md 56 "FlatBoxesModel" "weights" "[I") (List.mem_cons_of_mem _ (gIn k_686 (by decide +kernel)))) (fun _ h9 => h9) rfl d_Md_isBelow_74 ?_
        refine lv_iload_n hx hb d_Md_isBelow_77 rfl (lv_at hl 1 rfl) ?_
        refine g_iald hx hb hK.1 hP 16 0 (wMd_20 t a σ) rfl x (rfl) (by omega) (by decide) d_Md_isBelow_78 ?_
        refine lv_aload_n hx hb d_Md_isBelow_79 rfl (lv_at hl 0 rfl) ?_
        refine va_get (D := D) (ci := 7) (v := .ref (a 20)) (C := R_Md) (T := F_Md) (N := 34) hx hb hts (fun w h => List.mem_cons_of_mem _ (i_Md w h)) hown hK.1 hP 0 (wMd_0 t a σ) rfl 20 (by decide) (hts (.fieldLink R_Md 56 "FlatBoxesModel" "weights" "[I") (List.mem_cons_of_mem _ (gIn k_686 (by decide +kernel)))) (fun _ h9 => h9) rfl d_Md_isBelow_80 ?_
        refine lv_iload_n hx hb d_Md_isBelow_83 rfl (lv_at hl 2 rfl) ?_
        refine g_iald hx hb hK.1 hP 16 0 (wMd_20 t a σ) rfl y (rfl) (by omega) (by decide) d_Md_isBelow_84 ?_
        refine lv_icmp_le (tgt := 92) hx hb d_Md_isBelow_85 (by decide) (fun c_5 => ?_) (fun c_5 => ?_)
        · 
          refine lv_iconst (v := 0) hx hb d_Md_isBelow_92 (by decide) ?_
          refine lv_goto (tgt := 106) hx hb d_Md_isBelow_93 (by decide) ?_
          exact W.zret (v := 0) (ty := .boolean) hx hb hr (rfl) (fun U hU hW => ⟨⟨0, σ, rfl, by exact ⟨by simp [mBelow, c_1, c_2, c_3, c_5], rfl⟩, by rw [hU]; exact hP, hD⟩, hS.F hU⟩) hS.2.2 d_Md_isBelow_106
        · 
          refine lv_iconst (v := 1) hx hb d_Md_isBelow_88 (by decide) ?_
          refine lv_goto (tgt := 106) hx hb d_Md_isBelow_89 (by decide) ?_
          exact W.zret (v := 1) (ty := .boolean) hx hb hr (rfl) (fun U hU hW => ⟨⟨1, σ, rfl, by exact ⟨by simp [mBelow, c_1, c_2, c_3, c_5], rfl⟩, by rw [hU]; exact hP, hD⟩, hS.F hU⟩) hS.2.2 d_Md_isBelow_106
    · 
      refine lv_aload_n hx hb d_Md_isBelow_37 rfl (lv_at hl 0 rfl) ?_
      refine va_get (D := D) (ci := 7) (v := .ref (a 21)) (C := R_Md) (T := F_Md) (N := 34) hx hb hts (fun w h => List.mem_cons_of_mem _ (i_Md w h)) hown hK.1 hP 0 (wMd_0 t a σ) rfl 21 (by decide) (hts (.fieldLink R_Md 59 "FlatBoxesModel" "firsts" "[I") (List.mem_cons_of_mem _ (gIn k_687 (by decide +kernel)))) (fun _ h9 => h9) rfl d_Md_isBelow_38 ?_
      refine lv_iload_n hx hb d_Md_isBelow_41 rfl (lv_at hl 1 rfl) ?_
      refine g_iald hx hb hK.1 hP 17 0 (wMd_21 t a σ) rfl x (rfl) (by omega) (by decide) d_Md_isBelow_42 ?_
      refine lv_aload_n hx hb d_Md_isBelow_43 rfl (lv_at hl 0 rfl) ?_
      refine va_get (D := D) (ci := 7) (v := .ref (a 21)) (C := R_Md) (T := F_Md) (N := 34) hx hb hts (fun w h => List.mem_cons_of_mem _ (i_Md w h)) hown hK.1 hP 0 (wMd_0 t a σ) rfl 21 (by decide) (hts (.fieldLink R_Md 59 "FlatBoxesModel" "firsts" "[I") (List.mem_cons_of_mem _ (gIn k_687 (by decide +kernel)))) (fun _ h9 => h9) rfl d_Md_isBelow_44 ?_
      refine lv_iload_n hx hb d_Md_isBelow_47 rfl (lv_at hl 2 rfl) ?_
      refine g_iald hx hb hK.1 hP 17 0 (wMd_21 t a σ) rfl y (rfl) (by omega) (by decide) d_Md_isBelow_48 ?_
      refine lv_icmp_le (tgt := 56) hx hb d_Md_isBelow_49 (by decide) (fun c_6 => ?_) (fun c_6 => ?_)
      · 
        refine lv_iconst (v := 0) hx hb d_Md_isBelow_56 (by decide) ?_
        exact W.zret (v := 0) (ty := .boolean) hx hb hr (rfl) (fun U hU hW => ⟨⟨0, σ, rfl, by exact ⟨by simp [mBelow, c_1, c_2, c_6], rfl⟩, by rw [hU]; exact hP, hD⟩, hS.F hU⟩) hS.2.2 d_Md_isBelow_57
      · 
        refine lv_iconst (v := 1) hx hb d_Md_isBelow_52 (by decide) ?_
        refine lv_goto (tgt := 57) hx hb d_Md_isBelow_53 (by decide) ?_
        exact W.zret (v := 1) (ty := .boolean) hx hb hr (rfl) (fun U hU hW => ⟨⟨1, σ, rfl, by exact ⟨by simp [mBelow, c_1, c_2, c_6], rfl⟩, by rw [hU]; exact hP, hD⟩, hS.F hU⟩) hS.2.2 d_Md_isBelow_57
  · 
    refine lv_aload_n hx hb d_Md_isBelow_15 rfl (lv_at hl 0 rfl) ?_
    refine va_get (D := D) (ci := 7) (v := .ref (a 22)) (C := R_Md) (T := F_Md) (N := 34) hx hb hts (fun w h => List.mem_cons_of_mem _ (i_Md w h)) hown hK.1 hP 0 (wMd_0 t a σ) rfl 22 (by decide) (hts (.fieldLink R_Md 62 "FlatBoxesModel" "breaks" "[Z") (List.mem_cons_of_mem _ (gIn k_688 (by decide +kernel)))) (fun _ h9 => h9) rfl d_Md_isBelow_16 ?_
    refine lv_iload_n hx hb d_Md_isBelow_19 rfl (lv_at hl 2 rfl) ?_
    refine g_zald hx hb hK.1 hP 18 1 (wMd_22 t a σ) rfl y (rfl) (by omega) (by decide) d_Md_isBelow_20 ?_
    exact W.zret (v := σ 22 y) (ty := .boolean) hx hb hr (gb_n (h22 y)) (fun U hU hW => ⟨⟨σ 22 y, σ, rfl, by exact ⟨by simp [mBelow, c_1], rfl⟩, by rw [hU]; exact hP, hD⟩, hS.F hU⟩) hS.2.2 d_Md_isBelow_21
end
section
def mFragC (np : Nat) (pq : Int32) : Int32 := if mIn pq 0 (nI np - 1) = 0 then 1 else 0
def mFragN (σ : Nat → Nat → Int32) (pq on : Int32) : Int32 := if σ 14 pq.toNatClampNeg = on then 0 else 1
def mFragR (σ : Nat → Nat → Int32) (np : Nat) (pq on : Int32) : Int32 := if mFragC np pq = 0 then mFragN σ pq on else 0
def mFragU (σ : Nat → Nat → Int32) (np : Nat) (pq on : Int32) : Nat → Nat → Int32 := if mFragC np pq = 0 then gSt (gSt (gSt σ 0 0 0) 14 pq.toNatClampNeg on) 24 0 (if σ 24 0 = 0 then 0 else if mFragN σ pq on = 0 then 1 else 0) else gSt σ 0 0 1
def mBefS (f : Nat → Int32) (q : Nat) : Nat → Int32
  | 0 => 0
  | r + 1 => mBefS f q r + (if f r < f q then 1 else if ¬ f r = f q then 0 else if q ≤ r then 0 else 1)
def mMan (f : Nat → Int32) (np : Nat) (k : Int32) : Nat → Nat → Int32
  | 0, _ => 0
  | d + 1, q => if mBefS f q np = k then nI q else mMan f np k d (q + 1)
def mManC (np : Nat) (k : Int32) : Int32 := if mIn k 0 (nI np - 1) = 0 then 1 else 0
def mManR (σ : Nat → Nat → Int32) (np : Nat) (k : Int32) : Int32 := if mManC np k = 0 then mMan (σ 13) np k np 0 else 0
def mIntoG (mn ec sp : Int32) : Int32 := if mIn mn 0 1000 = 0 then 0 else if mIn ec 1 1000 = 0 then 0 else if mIn sp 0 ec = 0 then 0 else 1
def mIntoC (nb : Nat) (kc : Nat → Nat) (bg mn ec sp : Int32) : Int32 := if mIn bg 0 (nI nb - 1) = 0 then 1 else if mIntoG mn ec sp = 0 then 2 else if kc bg.toNatClampNeg = 6 then 3 else 0
def mIntoR (nb : Nat) (kc : Nat → Nat) (bg mn ec sp : Int32) : Int32 := if mIntoC nb kc bg mn ec sp = 0 then nI (kc bg.toNatClampNeg + 1) else 0
def mIntoU (σ : Nat → Nat → Int32) (nb : Nat) (kc : Nat → Nat) (bg mn ec sp : Int32) : Nat → Nat → Int32 := if mIntoC nb kc bg mn ec sp = 0 then gSt (gSt (gSt (gSt (gSt σ 0 0 0) 31 (6 * bg.toNatClampNeg + kc bg.toNatClampNeg) mn) 32 (6 * bg.toNatClampNeg + kc bg.toNatClampNeg) ec) 33 (6 * bg.toNatClampNeg + kc bg.toNatClampNeg) sp) 30 bg.toNatClampNeg (nI (kc bg.toNatClampNeg + 1)) else gSt σ 0 0 (mIntoC nb kc bg mn ec sp)
theorem gMul6 (b : Nat) : (6 : Int32) * nI b = nI (6 * b) := pk_mul 6 b
def mS1 (σ : Nat → Nat → Int32) (x : Nat) (b : Nat) : Nat → Int32
  | 0 => 0
  | j + 1 => mS1 σ x b j + σ 31 (6 * b + j) * σ x (6 * b + j)
def mUns (σ : Nat → Nat → Int32) (v sm sr : Int32) (b : Nat) : Nat → Int32
  | 0 => 0
  | j + 1 => if ¬ mUns σ v sm sr b j = 0 then 1 else if σ 31 (6 * b + j) ≤ 0 then mWithin v (sm + σ 32 (6 * b + j)) (sr + σ 33 (6 * b + j)) else if ¬ mWithin v (sm - σ 32 (6 * b + j)) (sr - σ 33 (6 * b + j)) = 0 then 1 else mWithin v (sm + σ 32 (6 * b + j)) (sr + σ 33 (6 * b + j))
theorem mWithin01 (v s r : Int32) : mWithin v s r = 0 ∨ mWithin v s r = 1 := by unfold mWithin; split; simp; split <;> simp

theorem gg_Md_100 (w0 : Cond) : GoodIn (w0 :: gBig) (wsS R_Md 100 y_Md_isSide (.code y_Md_isSide b_Md_isSide 1 (some .boolean) :: gBig)) := gGoodS (gIn k_777 (by decide +kernel)) (gIn k_778 (by decide +kernel)) (gIn k_9 (by decide +kernel)) (gIn k_779 (by decide +kernel))
set_option maxHeartbeats 4000000 in
set_option maxRecDepth 100000 in
theorem c_Md_carton (l : Launch) (D : va_G) (t : Nat → ClassId) (a : Nat → Nat) (σ : Nat → Nat → Int32) (wd dp ht ct gr : Int32) (nc : Nat) (hC : σ 2 0 = nI nc) (hC4 : nc ≤ 4) : gMi l D t y_Md_carton b_Md_carton 7 (some .int) 2 [.ref (a 0), .int wd, .int dp, .int ht, .int ct, .int gr] (wMd t a σ) (wMd t a) (fun r u => r = mCartonR nc wd dp ht ct gr ∧ u = mCartonU σ nc wd dp ht ct gr) := by
  intro A
  refine Met.ofW (cc := b_Md_carton) (maxL := 7) (ret := (some .int)) (by decide) rfl ?_
  intro p e s m args below meth c s₁ B hml hv
  obtain ⟨rfl, hK, hP, hD⟩ := hv
  have hx := B.exec
  have hb := B.bytes
  have hr := B.returns
  have hts := atoms_spec (ws := .code y_Md_carton b_Md_carton 7 (some .int) :: gBig) B.pre
  have hown : s.vm.findClass R_Md = some m.cls := findClass_of_methodNamed B.named
  have hlocks := B.notSynchronized
  have hS : va_S A s.heap s.heap [] := va_S.rf
  have hl := lv_entry ([.ref (a 0), .int wd, .int dp, .int ht, .int ct, .int gr]) (n := 7) (Nat.le_of_ble_eq_true rfl)
  rw [lg_entry_eq]
  generalize (lg_sl ([.ref (a 0), .int wd, .int dp, .int ht, .int ct, .int gr]) ++ List.replicate (7 - (lg_sl ([.ref (a 0), .int wd, .int dp, .int ht, .int ct, .int gr])).length) Slot.unset).toArray = ls at hl ⊢
  have hl : lv_has ls 7 [(0, .ref (a 0)), (1, .int wd), (2, .int dp), (3, .int ht), (4, .int ct), (5, .int gr)] := hl
  show gGo l p e s m below meth c D t A 2 [.ref (a 0), .int wd, .int dp, .int ht, .int ct, .int gr] (wMd t a) (fun r u => r = mCartonR nc wd dp ht ct gr ∧ u = mCartonU σ nc wd dp ht ct gr) s.heap [] (F0 m 0 ls [])
  refine lv_iload_n hx hb d_Md_carton_0 rfl (lv_at hl 1 rfl) ?_
  refine g_si (k := 1) (As := [.int wd]) (rest := []) (own := R_Md) (index := 100) ⟨hx, hb, hml, hown, hts⟩ (c_Md_isSide l D t a σ wd) (gg_Md_100 _) (by decide +kernel) ⟨Nat.le_of_ble_eq_true rfl, Nat.le_of_ble_eq_true rfl⟩ rfl hK hP hD hS hl.1 rfl (Nat.le_of_ble_eq_true rfl) ⟨Nat.zero_le _, Nat.zero_le _⟩ d_Md_carton_1 (fun r_1 u_1 H locs q_1 hP hD hS => ?_)
  obtain ⟨rfl, hu_1⟩ := q_1
  rw [hu_1] at hP hD
  refine lv_if_eq (tgt := 47) hx hb d_Md_carton_4 (by decide) (fun c_2 => ?_) (fun c_2 => ?_)
  · 
    refine lv_iconst (v := 0) hx hb d_Md_carton_47 (by decide) ?_
    refine lv_istore (lv' := [(6, .int 0), (0, .ref (a 0)), (1, .int wd), (2, .int dp), (3, .int ht), (4, .int ct), (5, .int gr)]) hx hb d_Md_carton_48 hl (by decide) rfl (fun ls hl => ?_)
    refine lv_aload_n hx hb d_Md_carton_50 rfl (lv_at hl 1 rfl) ?_
    refine lv_iload hx hb d_Md_carton_51 (lv_at hl 0 rfl) ?_
    refine lv_if_ne (tgt := 60) hx hb d_Md_carton_53 (by decide) (fun c_3 => ?_) (fun c_3 => ?_)
    · 
      exact absurd c_3 (by decide)
    · 
      refine lv_iconst (v := 1) hx hb d_Md_carton_56 (by decide) ?_
      refine lv_goto (tgt := 73) hx hb d_Md_carton_57 (by decide) ?_
      refine va_put (D := D) (ci := 7) (v := .int 1) (ty := .int) (C := R_Md) (T := F_Md) (N := 34) hx hb hts (fun w h => List.mem_cons_of_mem _ (i_Md w h)) t_Md t_Md_ok n_Md hown hK.1 hP hD hS 0 (wMd_0 t a σ) rfl 0 (by decide) (hts (.fieldLink R_Md 93 "FlatBoxesModel" "code" "I") (List.mem_cons_of_mem _ (gIn k_666 (by decide +kernel)))) (fun _ h9 => h9) rfl (by decide +kernel) rfl rfl (Nat.le_of_ble_eq_true rfl) d_Md_carton_73 (fun H locs hP hD hS => ?_)
      have hP : va_P D gCl (wMd t a (gSt σ 0 0 1)) H := hP
      have hD : va_D A (wMd t a (gSt σ 0 0 1)) := hD
      refine lv_aload_n hx hb d_Md_carton_76 rfl (lv_at hl 1 rfl) ?_
      refine va_get (D := D) (ci := 7) (v := .int ((gSt σ 0 0 1) 0 0)) (C := R_Md) (T := F_Md) (N := 34) hx hb hts (fun w h => List.mem_cons_of_mem _ (i_Md w h)) hown hK.1 hP 0 (wMd_0 t a (gSt σ 0 0 1)) rfl 0 (by decide) (hts (.fieldLink R_Md 93 "FlatBoxesModel" "code" "I") (List.mem_cons_of_mem _ (gIn k_666 (by decide +kernel)))) (fun _ h9 => h9) rfl d_Md_carton_77 ?_
      refine lv_topi (fun v_4 e_4 => ?_)
      obtain rfl : 1 = v_4 := (e_4.trans (rfl)).symm
      refine lv_if_le (tgt := 85) hx hb d_Md_carton_80 (by decide) (fun c_5 => ?_) (fun c_5 => ?_)
      · 
        exact absurd c_5 (by decide)
      · 
        refine lv_iconst (v := 0) hx hb d_Md_carton_83 (by decide) ?_
        exact W.iret (v := 0) hx hb hr (fun U hU hW => ⟨⟨0, gSt σ 0 0 1, rfl, by exact ⟨by simp [mCartonR, mCartonC, mAll, c_2, c_3, c_5], by simp [mCartonU, mCartonC, mAll, c_2, c_3, c_5]⟩, by rw [hU]; exact hP, hD⟩, hS.F hU⟩) hS.2.2 d_Md_carton_84
  · 
    refine lv_iload_n hx hb d_Md_carton_7 rfl (lv_at hl 2 rfl) ?_
    refine g_si (k := 1) (As := [.int dp]) (rest := []) (own := R_Md) (index := 100) ⟨hx, hb, hml, hown, hts⟩ (c_Md_isSide l D t a σ dp) (gg_Md_100 _) (by decide +kernel) ⟨Nat.le_of_ble_eq_true rfl, Nat.le_of_ble_eq_true rfl⟩ rfl hK hP hD hS hl.1 rfl (Nat.le_of_ble_eq_true rfl) ⟨Nat.zero_le _, Nat.zero_le _⟩ d_Md_carton_8 (fun r_6 u_6 H locs q_6 hP hD hS => ?_)
    obtain ⟨rfl, hu_6⟩ := q_6
    rw [hu_6] at hP hD
    refine lv_if_eq (tgt := 47) hx hb d_Md_carton_11 (by decide) (fun c_7 => ?_) (fun c_7 => ?_)
    · 
      refine lv_iconst (v := 0) hx hb d_Md_carton_47 (by decide) ?_
      refine lv_istore (lv' := [(6, .int 0), (0, .ref (a 0)), (1, .int wd), (2, .int dp), (3, .int ht), (4, .int ct), (5, .int gr)]) hx hb d_Md_carton_48 hl (by decide) rfl (fun ls hl => ?_)
      refine lv_aload_n hx hb d_Md_carton_50 rfl (lv_at hl 1 rfl) ?_
      refine lv_iload hx hb d_Md_carton_51 (lv_at hl 0 rfl) ?_
      refine lv_if_ne (tgt := 60) hx hb d_Md_carton_53 (by decide) (fun c_8 => ?_) (fun c_8 => ?_)
      · 
        exact absurd c_8 (by decide)
      · 
        refine lv_iconst (v := 1) hx hb d_Md_carton_56 (by decide) ?_
        refine lv_goto (tgt := 73) hx hb d_Md_carton_57 (by decide) ?_
        refine va_put (D := D) (ci := 7) (v := .int 1) (ty := .int) (C := R_Md) (T := F_Md) (N := 34) hx hb hts (fun w h => List.mem_cons_of_mem _ (i_Md w h)) t_Md t_Md_ok n_Md hown hK.1 hP hD hS 0 (wMd_0 t a σ) rfl 0 (by decide) (hts (.fieldLink R_Md 93 "FlatBoxesModel" "code" "I") (List.mem_cons_of_mem _ (gIn k_666 (by decide +kernel)))) (fun _ h9 => h9) rfl (by decide +kernel) rfl rfl (Nat.le_of_ble_eq_true rfl) d_Md_carton_73 (fun H locs hP hD hS => ?_)
        have hP : va_P D gCl (wMd t a (gSt σ 0 0 1)) H := hP
        have hD : va_D A (wMd t a (gSt σ 0 0 1)) := hD
        refine lv_aload_n hx hb d_Md_carton_76 rfl (lv_at hl 1 rfl) ?_
        refine va_get (D := D) (ci := 7) (v := .int ((gSt σ 0 0 1) 0 0)) (C := R_Md) (T := F_Md) (N := 34) hx hb hts (fun w h => List.mem_cons_of_mem _ (i_Md w h)) hown hK.1 hP 0 (wMd_0 t a (gSt σ 0 0 1)) rfl 0 (by decide) (hts (.fieldLink R_Md 93 "FlatBoxesModel" "code" "I") (List.mem_cons_of_mem _ (gIn k_666 (by decide +kernel)))) (fun _ h9 => h9) rfl d_Md_carton_77 ?_
        refine lv_topi (fun v_9 e_9 => ?_)
        obtain rfl : 1 = v_9 := (e_9.trans (rfl)).symm
        refine lv_if_le (tgt := 85) hx hb d_Md_carton_80 (by decide) (fun c_10 => ?_) (fun c_10 => ?_)
        · 
          exact absurd c_10 (by decide)
        · 
          refine lv_iconst (v := 0) hx hb d_Md_carton_83 (by decide) ?_
          exact W.iret (v := 0) hx hb hr (fun U hU hW => ⟨⟨0, gSt σ 0 0 1, rfl, by exact ⟨by simp [mCartonR, mCartonC, mAll, c_2, c_7, c_8, c_10], by simp [mCartonU, mCartonC, mAll, c_2, c_7, c_8, c_10]⟩, by rw [hU]; exact hP, hD⟩, hS.F hU⟩) hS.2.2 d_Md_carton_84
    · 
      refine lv_iload_n hx hb d_Md_carton_14 rfl (lv_at hl 3 rfl) ?_
      refine g_si (k := 1) (As := [.int ht]) (rest := []) (own := R_Md) (index := 100) ⟨hx, hb, hml, hown, hts⟩ (c_Md_isSide l D t a σ ht) (gg_Md_100 _) (by decide +kernel) ⟨Nat.le_of_ble_eq_true rfl, Nat.le_of_ble_eq_true rfl⟩ rfl hK hP hD hS hl.1 rfl (Nat.le_of_ble_eq_true rfl) ⟨Nat.zero_le _, Nat.zero_le _⟩ d_Md_carton_15 (fun r_11 u_11 H locs q_11 hP hD hS => ?_)
      obtain ⟨rfl, hu_11⟩ := q_11
      rw [hu_11] at hP hD
      refine lv_if_eq (tgt := 47) hx hb d_Md_carton_18 (by decide) (fun c_12 => ?_) (fun c_12 => ?_)
      · 
        refine lv_iconst (v := 0) hx hb d_Md_carton_47 (by decide) ?_
        refine lv_istore (lv' := [(6, .int 0), (0, .ref (a 0)), (1, .int wd), (2, .int dp), (3, .int ht), (4, .int ct), (5, .int gr)]) hx hb d_Md_carton_48 hl (by decide) rfl (fun ls hl => ?_)
        refine lv_aload_n hx hb d_Md_carton_50 rfl (lv_at hl 1 rfl) ?_
        refine lv_iload hx hb d_Md_carton_51 (lv_at hl 0 rfl) ?_
        refine lv_if_ne (tgt := 60) hx hb d_Md_carton_53 (by decide) (fun c_13 => ?_) (fun c_13 => ?_)
        · 
          exact absurd c_13 (by decide)
        · 
          refine lv_iconst (v := 1) hx hb d_Md_carton_56 (by decide) ?_
          refine lv_goto (tgt := 73) hx hb d_Md_carton_57 (by decide) ?_
          refine va_put (D := D) (ci := 7) (v := .int 1) (ty := .int) (C := R_Md) (T := F_Md) (N := 34) hx hb hts (fun w h => List.mem_cons_of_mem _ (i_Md w h)) t_Md t_Md_ok n_Md hown hK.1 hP hD hS 0 (wMd_0 t a σ) rfl 0 (by decide) (hts (.fieldLink R_Md 93 "FlatBoxesModel" "code" "I") (List.mem_cons_of_mem _ (gIn k_666 (by decide +kernel)))) (fun _ h9 => h9) rfl (by decide +kernel) rfl rfl (Nat.le_of_ble_eq_true rfl) d_Md_carton_73 (fun H locs hP hD hS => ?_)
          have hP : va_P D gCl (wMd t a (gSt σ 0 0 1)) H := hP
          have hD : va_D A (wMd t a (gSt σ 0 0 1)) := hD
          refine lv_aload_n hx hb d_Md_carton_76 rfl (lv_at hl 1 rfl) ?_
          refine va_get (D := D) (ci := 7) (v := .int ((gSt σ 0 0 1) 0 0)) (C := R_Md) (T := F_Md) (N := 34) hx hb hts (fun w h => List.mem_cons_of_mem _ (i_Md w h)) hown hK.1 hP 0 (wMd_0 t a (gSt σ 0 0 1)) rfl 0 (by decide) (hts (.fieldLink R_Md 93 "FlatBoxesModel" "code" "I") (List.mem_cons_of_mem _ (gIn k_666 (by decide +kernel)))) (fun _ h9 => h9) rfl d_Md_carton_77 ?_
          refine lv_topi (fun v_14 e_14 => ?_)
          obtain rfl : 1 = v_14 := (e_14.trans (rfl)).symm
          refine lv_if_le (tgt := 85) hx hb d_Md_carton_80 (by decide) (fun c_15 => ?_) (fun c_15 => ?_)
          · 
            exact absurd c_15 (by decide)
          · 
            refine lv_iconst (v := 0) hx hb d_Md_carton_83 (by decide) ?_
            exact W.iret (v := 0) hx hb hr (fun U hU hW => ⟨⟨0, gSt σ 0 0 1, rfl, by exact ⟨by simp [mCartonR, mCartonC, mAll, c_2, c_7, c_12, c_13, c_15], by simp [mCartonU, mCartonC, mAll, c_2, c_7, c_12, c_13, c_15]⟩, by rw [hU]; exact hP, hD⟩, hS.F hU⟩) hS.2.2 d_Md_carton_84
      · 
        refine lv_iload hx hb d_Md_carton_21 (lv_at hl 4 rfl) ?_
        refine lv_iconst (v := 1) hx hb d_Md_carton_23 (by decide) ?_
        refine lv_ldc hx hb hown (hts (.constant R_Md 104 100000) (List.mem_cons_of_mem _ (gIn k_783 (by decide +kernel)))) d_Md_carton_24 ?_
        refine g_si (k := 3) (As := [.int ct, .int 1, .int 100000]) (rest := []) (own := R_Md) (index := 96) ⟨hx, hb, hml, hown, hts⟩ (c_Md_in l D t a σ ct 1 100000) (gg_Md_96 _) (by decide +kernel) ⟨Nat.le_of_ble_eq_true rfl, Nat.le_of_ble_eq_true rfl⟩ rfl hK hP hD hS hl.1 rfl (Nat.le_of_ble_eq_true rfl) ⟨Nat.zero_le _, Nat.zero_le _⟩ d_Md_carton_26 (fun r_16 u_16 H locs q_16 hP hD hS => ?_)
        obtain ⟨rfl, hu_16⟩ := q_16
        rw [hu_16] at hP hD
        refine lv_if_eq (tgt := 47) hx hb d_Md_carton_29 (by decide) (fun c_17 => ?_) (fun c_17 => ?_)
        · 
          refine lv_iconst (v := 0) hx hb d_Md_carton_47 (by decide) ?_
          refine lv_istore (lv' := [(6, .int 0), (0, .ref (a 0)), (1, .int wd), (2, .int dp), (3, .int ht), (4, .int ct), (5, .int gr)]) hx hb d_Md_carton_48 hl (by decide) rfl (fun ls hl => ?_)
          refine lv_aload_n hx hb d_Md_carton_50 rfl (lv_at hl 1 rfl) ?_
          refine lv_iload hx hb d_Md_carton_51 (lv_at hl 0 rfl) ?_
          refine lv_if_ne (tgt := 60) hx hb d_Md_carton_53 (by decide) (fun c_18 => ?_) (fun c_18 => ?_)
          · 
            exact absurd c_18 (by decide)
          · 
            refine lv_iconst (v := 1) hx hb d_Md_carton_56 (by decide) ?_
            refine lv_goto (tgt := 73) hx hb d_Md_carton_57 (by decide) ?_
            refine va_put (D := D) (ci := 7) (v := .int 1) (ty := .int) (C := R_Md) (T := F_Md) (N := 34) hx hb hts (fun w h => List.mem_cons_of_mem _ (i_Md w h)) t_Md t_Md_ok n_Md hown hK.1 hP hD hS 0 (wMd_0 t a σ) rfl 0 (by decide) (hts (.fieldLink R_Md 93 "FlatBoxesModel" "code" "I") (List.mem_cons_of_mem _ (gIn k_666 (by decide +kernel)))) (fun _ h9 => h9) rfl (by decide +kernel) rfl rfl (Nat.le_of_ble_eq_true rfl) d_Md_carton_73 (fun H locs hP hD hS => ?_)
            have hP : va_P D gCl (wMd t a (gSt σ 0 0 1)) H := hP
            have hD : va_D A (wMd t a (gSt σ 0 0 1)) := hD
            refine lv_aload_n hx hb d_Md_carton_76 rfl (lv_at hl 1 rfl) ?_
            refine va_get (D := D) (ci := 7) (v := .int ((gSt σ 0 0 1) 0 0)) (C := R_Md) (T := F_Md) (N := 34) hx hb hts (fun w h => List.mem_cons_of_mem _ (i_Md w h)) hown hK.1 hP 0 (wMd_0 t a (gSt σ 0 0 1)) rfl 0 (by decide) (hts (.fieldLink R_Md 93 "FlatBoxesModel" "code" "I") (List.mem_cons_of_mem _ (gIn k_666 (by decide +kernel)))) (fun _ h9 => h9) rfl d_Md_carton_77 ?_
            refine lv_topi (fun v_19 e_19 => ?_)
            obtain rfl : 1 = v_19 := (e_19.trans (rfl)).symm
            refine lv_if_le (tgt := 85) hx hb d_Md_carton_80 (by decide) (fun c_20 => ?_) (fun c_20 => ?_)
            · 
              exact absurd c_20 (by decide)
            · 
              refine lv_iconst (v := 0) hx hb d_Md_carton_83 (by decide) ?_
              exact W.iret (v := 0) hx hb hr (fun U hU hW => ⟨⟨0, gSt σ 0 0 1, rfl, by exact ⟨by simp [mCartonR, mCartonC, mAll, c_2, c_7, c_12, c_17, c_18, c_20], by simp [mCartonU, mCartonC, mAll, c_2, c_7, c_12, c_17, c_18, c_20]⟩, by rw [hU]; exact hP, hD⟩, hS.F hU⟩) hS.2.2 d_Md_carton_84
        · 
          refine lv_iload hx hb d_Md_carton_32 (lv_at hl 5 rfl) ?_
          refine lv_iconst (v := 1) hx hb d_Md_carton_34 (by decide) ?_
          refine lv_ldc hx hb hown (hts (.constant R_Md 104 100000) (List.mem_cons_of_mem _ (gIn k_783 (by decide +kernel)))) d_Md_carton_35 ?_
          refine g_si (k := 3) (As := [.int gr, .int 1, .int 100000]) (rest := []) (own := R_Md) (index := 96) ⟨hx, hb, hml, hown, hts⟩ (c_Md_in l D t a σ gr 1 100000) (gg_Md_96 _) (by decide +kernel) ⟨Nat.le_of_ble_eq_true rfl, Nat.le_of_ble_eq_true rfl⟩ rfl hK hP hD hS hl.1 rfl (Nat.le_of_ble_eq_true rfl) ⟨Nat.zero_le _, Nat.zero_le _⟩ d_Md_carton_37 (fun r_21 u_21 H locs q_21 hP hD hS => ?_)
          obtain ⟨rfl, hu_21⟩ := q_21
          rw [hu_21] at hP hD
          refine lv_if_eq (tgt := 47) hx hb d_Md_carton_40 (by decide) (fun c_22 => ?_) (fun c_22 => ?_)
          · 
            refine lv_iconst (v := 0) hx hb d_Md_carton_47 (by decide) ?_
            refine lv_istore (lv' := [(6, .int 0), (0, .ref (a 0)), (1, .int wd), (2, .int dp), (3, .int ht), (4, .int ct), (5, .int gr)]) hx hb d_Md_carton_48 hl (by decide) rfl (fun ls hl => ?_)
            refine lv_aload_n hx hb d_Md_carton_50 rfl (lv_at hl 1 rfl) ?_
            refine lv_iload hx hb d_Md_carton_51 (lv_at hl 0 rfl) ?_
            refine lv_if_ne (tgt := 60) hx hb d_Md_carton_53 (by decide) (fun c_23 => ?_) (fun c_23 => ?_)
            · 
              exact absurd c_23 (by decide)
            · 
              refine lv_iconst (v := 1) hx hb d_Md_carton_56 (by decide) ?_
              refine lv_goto (tgt := 73) hx hb d_Md_carton_57 (by decide) ?_
              refine va_put (D := D) (ci := 7) (v := .int 1) (ty := .int) (C := R_Md) (T := F_Md) (N := 34) hx hb hts (fun w h => List.mem_cons_of_mem _ (i_Md w h)) t_Md t_Md_ok n_Md hown hK.1 hP hD hS 0 (wMd_0 t a σ) rfl 0 (by decide) (hts (.fieldLink R_Md 93 "FlatBoxesModel" "code" "I") (List.mem_cons_of_mem _ (gIn k_666 (by decide +kernel)))) (fun _ h9 => h9) rfl (by decide +kernel) rfl rfl (Nat.le_of_ble_eq_true rfl) d_Md_carton_73 (fun H locs hP hD hS => ?_)
              have hP : va_P D gCl (wMd t a (gSt σ 0 0 1)) H := hP
              have hD : va_D A (wMd t a (gSt σ 0 0 1)) := hD
              refine lv_aload_n hx hb d_Md_carton_76 rfl (lv_at hl 1 rfl) ?_
              refine va_get (D := D) (ci := 7) (v := .int ((gSt σ 0 0 1) 0 0)) (C := R_Md) (T := F_Md) (N := 34) hx hb hts (fun w h => List.mem_cons_of_mem _ (i_Md w h)) hown hK.1 hP 0 (wMd_0 t a (gSt σ 0 0 1)) rfl 0 (by decide) (hts (.fieldLink R_Md 93 "FlatBoxesModel" "code" "I") (List.mem_cons_of_mem _ (gIn k_666 (by decide +kernel)))) (fun _ h9 => h9) rfl d_Md_carton_77 ?_
              refine lv_topi (fun v_24 e_24 => ?_)
              obtain rfl : 1 = v_24 := (e_24.trans (rfl)).symm
              refine lv_if_le (tgt := 85) hx hb d_Md_carton_80 (by decide) (fun c_25 => ?_) (fun c_25 => ?_)
              · 
                exact absurd c_25 (by decide)
              · 
                refine lv_iconst (v := 0) hx hb d_Md_carton_83 (by decide) ?_
                exact W.iret (v := 0) hx hb hr (fun U hU hW => ⟨⟨0, gSt σ 0 0 1, rfl, by exact ⟨by simp [mCartonR, mCartonC, mAll, c_2, c_7, c_12, c_17, c_22, c_23, c_25], by simp [mCartonU, mCartonC, mAll, c_2, c_7, c_12, c_17, c_22, c_23, c_25]⟩, by rw [hU]; exact hP, hD⟩, hS.F hU⟩) hS.2.2 d_Md_carton_84
          · 
            refine lv_iconst (v := 1) hx hb d_Md_carton_43 (by decide) ?_
            refine lv_goto (tgt := 48) hx hb d_Md_carton_44 (by decide) ?_
            refine lv_istore (lv' := [(6, .int 1), (0, .ref (a 0)), (1, .int wd), (2, .int dp), (3, .int ht), (4, .int ct), (5, .int gr)]) hx hb d_Md_carton_48 hl (by decide) rfl (fun ls hl => ?_)
            refine lv_aload_n hx hb d_Md_carton_50 rfl (lv_at hl 1 rfl) ?_
            refine lv_iload hx hb d_Md_carton_51 (lv_at hl 0 rfl) ?_
            refine lv_if_ne (tgt := 60) hx hb d_Md_carton_53 (by decide) (fun c_26 => ?_) (fun c_26 => ?_)
            · 
              refine lv_aload_n hx hb d_Md_carton_60 rfl (lv_at hl 1 rfl) ?_
              refine va_get (D := D) (ci := 7) (v := .int (σ 2 0)) (C := R_Md) (T := F_Md) (N := 34) hx hb hts (fun w h => List.mem_cons_of_mem _ (i_Md w h)) hown hK.1 hP 0 (wMd_0 t a σ) rfl 2 (by decide) (hts (.fieldLink R_Md 105 "FlatBoxesModel" "cartons" "I") (List.mem_cons_of_mem _ (gIn k_668 (by decide +kernel)))) (fun _ h9 => h9) rfl d_Md_carton_61 ?_
              refine lv_topi (fun v_27 e_27 => ?_)
              obtain rfl : nI nc = v_27 := (e_27.trans hC).symm
              refine lv_iconst (v := 4) hx hb d_Md_carton_64 (by decide) ?_
              refine lv_icmp_ne (tgt := 72) hx hb d_Md_carton_65 (by decide) (fun c_28 => ?_) (fun c_28 => ?_)
              · 
                have h_28 : ¬ nc = 4 := fun q9 => c_28 ((nI_eq (a := nc) (b := 4) (by omega) (by omega)).mpr q9)
                refine lv_iconst (v := 0) hx hb d_Md_carton_72 (by decide) ?_
                refine va_put (D := D) (ci := 7) (v := .int 0) (ty := .int) (C := R_Md) (T := F_Md) (N := 34) hx hb hts (fun w h => List.mem_cons_of_mem _ (i_Md w h)) t_Md t_Md_ok n_Md hown hK.1 hP hD hS 0 (wMd_0 t a σ) rfl 0 (by decide) (hts (.fieldLink R_Md 93 "FlatBoxesModel" "code" "I") (List.mem_cons_of_mem _ (gIn k_666 (by decide +kernel)))) (fun _ h9 => h9) rfl (by decide +kernel) rfl rfl (Nat.le_of_ble_eq_true rfl) d_Md_carton_73 (fun H locs hP hD hS => ?_)
                have hP : va_P D gCl (wMd t a (gSt σ 0 0 0)) H := hP
                have hD : va_D A (wMd t a (gSt σ 0 0 0)) := hD
                refine lv_aload_n hx hb d_Md_carton_76 rfl (lv_at hl 1 rfl) ?_
                refine va_get (D := D) (ci := 7) (v := .int ((gSt σ 0 0 0) 0 0)) (C := R_Md) (T := F_Md) (N := 34) hx hb hts (fun w h => List.mem_cons_of_mem _ (i_Md w h)) hown hK.1 hP 0 (wMd_0 t a (gSt σ 0 0 0)) rfl 0 (by decide) (hts (.fieldLink R_Md 93 "FlatBoxesModel" "code" "I") (List.mem_cons_of_mem _ (gIn k_666 (by decide +kernel)))) (fun _ h9 => h9) rfl d_Md_carton_77 ?_
                refine lv_topi (fun v_29 e_29 => ?_)
                obtain rfl : 0 = v_29 := (e_29.trans (rfl)).symm
                refine lv_if_le (tgt := 85) hx hb d_Md_carton_80 (by decide) (fun c_30 => ?_) (fun c_30 => ?_)
                · 
                  refine lv_aload_n hx hb d_Md_carton_85 rfl (lv_at hl 1 rfl) ?_
                  refine va_get (D := D) (ci := 7) (v := .ref (a 3)) (C := R_Md) (T := F_Md) (N := 34) hx hb hts (fun w h => List.mem_cons_of_mem _ (i_Md w h)) hown hK.1 hP 0 (wMd_0 t a (gSt σ 0 0 0)) rfl 3 (by decide) (hts (.fieldLink R_Md 7 "FlatBoxesModel" "widths" "[I") (List.mem_cons_of_mem _ (gIn k_669 (by decide +kernel)))) (fun _ h9 => h9) rfl d_Md_carton_86 ?_
                  refine lv_aload_n hx hb d_Md_carton_89 rfl (lv_at hl 1 rfl) ?_
                  refine va_get (D := D) (ci := 7) (v := .int ((gSt σ 0 0 0) 2 0)) (C := R_Md) (T := F_Md) (N := 34) hx hb hts (fun w h => List.mem_cons_of_mem _ (i_Md w h)) hown hK.1 hP 0 (wMd_0 t a (gSt σ 0 0 0)) rfl 2 (by decide) (hts (.fieldLink R_Md 105 "FlatBoxesModel" "cartons" "I") (List.mem_cons_of_mem _ (gIn k_668 (by decide +kernel)))) (fun _ h9 => h9) rfl d_Md_carton_90 ?_
                  refine lv_topi (fun v_31 e_31 => ?_)
                  obtain rfl : nI nc = v_31 := (e_31.trans hC).symm
                  refine lv_iload_n hx hb d_Md_carton_93 rfl (lv_at hl 2 rfl) ?_
                  refine g_iast hx hb hK.1 hP hD hS 1 0 (wMd_3 t a (gSt σ 0 0 0)) rfl nc (rfl) (by omega) (by decide) (w' := wMd t a (gSt (gSt σ 0 0 0) 3 nc wd)) (sMd_3 t a (gSt σ 0 0 0) nc wd) d_Md_carton_94 (fun H locs hP hD hS => ?_)
                  refine lv_aload_n hx hb d_Md_carton_95 rfl (lv_at hl 1 rfl) ?_
                  refine va_get (D := D) (ci := 7) (v := .ref (a 4)) (C := R_Md) (T := F_Md) (N := 34) hx hb hts (fun w h => List.mem_cons_of_mem _ (i_Md w h)) hown hK.1 hP 0 (wMd_0 t a (gSt (gSt σ 0 0 0) 3 nc wd)) rfl 4 (by decide) (hts (.fieldLink R_Md 13 "FlatBoxesModel" "depths" "[I") (List.mem_cons_of_mem _ (gIn k_670 (by decide +kernel)))) (fun _ h9 => h9) rfl d_Md_carton_96 ?_
                  refine lv_aload_n hx hb d_Md_carton_99 rfl (lv_at hl 1 rfl) ?_
                  refine va_get (D := D) (ci := 7) (v := .int ((gSt (gSt σ 0 0 0) 3 nc wd) 2 0)) (C := R_Md) (T := F_Md) (N := 34) hx hb hts (fun w h => List.mem_cons_of_mem _ (i_Md w h)) hown hK.1 hP 0 (wMd_0 t a (gSt (gSt σ 0 0 0) 3 nc wd)) rfl 2 (by decide) (hts (.fieldLink R_Md 105 "FlatBoxesModel" "cartons" "I") (List.mem_cons_of_mem _ (gIn k_668 (by decide +kernel)))) (fun _ h9 => h9) rfl d_Md_carton_100 ?_
                  refine lv_topi (fun v_32 e_32 => ?_)
                  obtain rfl : nI nc = v_32 := (e_32.trans hC).symm
                  refine lv_iload_n hx hb d_Md_carton_103 rfl (lv_at hl 3 rfl) ?_
                  refine g_iast hx hb hK.1 hP hD hS 2 0 (wMd_4 t a (gSt (gSt σ 0 0 0) 3 nc wd)) rfl nc (rfl) (by omega) (by decide) (w' := wMd t a (gSt (gSt (gSt σ 0 0 0) 3 nc wd) 4 nc dp)) (sMd_4 t a (gSt (gSt σ 0 0 0) 3 nc wd) nc dp) d_Md_carton_104 (fun H locs hP hD hS => ?_)
                  refine lv_aload_n hx hb d_Md_carton_105 rfl (lv_at hl 1 rfl) ?_
                  refine va_get (D := D) (ci := 7) (v := .ref (a 5)) (C := R_Md) (T := F_Md) (N := 34) hx hb hts (fun w h => List.mem_cons_of_mem _ (i_Md w h)) hown hK.1 hP 0 (wMd_0 t a (gSt (gSt (gSt σ 0 0 0) 3 nc wd) 4 nc dp)) rfl 5 (by decide) (hts (.fieldLink R_Md 16 "FlatBoxesModel" "heights" "[I") (List.mem_cons_of_mem _ (gIn k_671 (by decide +kernel)))) (fun _ h9 => h9) rfl d_Md_carton_106 ?_
                  refine lv_aload_n hx hb d_Md_carton_109 rfl (lv_at hl 1 rfl) ?_
                  refine va_get (D := D) (ci := 7) (v := .int ((gSt (gSt (gSt σ 0 0 0) 3 nc wd) 4 nc dp) 2 0)) (C := R_Md) (T := F_Md) (N := 34) hx hb hts (fun w h => List.mem_cons_of_mem _ (i_Md w h)) hown hK.1 hP 0 (wMd_0 t a (gSt (gSt (gSt σ 0 0 0) 3 nc wd) 4 nc dp)) rfl 2 (by decide) (hts (.fieldLink R_Md 105 "FlatBoxesModel" "cartons" "I") (List.mem_cons_of_mem _ (gIn k_668 (by decide +kernel)))) (fun _ h9 => h9) rfl d_Md_carton_110 ?_
                  refine lv_topi (fun v_33 e_33 => ?_)
                  obtain rfl : nI nc = v_33 := (e_33.trans hC).symm
                  refine lv_iload_n hx hb d_Md_carton_113 rfl (lv_at hl 4 rfl) ?_
                  refine g_iast hx hb hK.1 hP hD hS 3 0 (wMd_5 t a (gSt (gSt (gSt σ 0 0 0) 3 nc wd) 4 nc dp)) rfl nc (rfl) (by omega) (by decide) (w' := wMd t a (gSt (gSt (gSt (gSt σ 0 0 0) 3 nc wd) 4 nc dp) 5 nc ht)) (sMd_5 t a (gSt (gSt (gSt σ 0 0 0) 3 nc wd) 4 nc dp) nc ht) d_Md_carton_114 (fun H locs hP hD hS => ?_)
                  refine lv_aload_n hx hb d_Md_carton_115 rfl (lv_at hl 1 rfl) ?_
                  refine va_get (D := D) (ci := 7) (v := .ref (a 6)) (C := R_Md) (T := F_Md) (N := 34) hx hb hts (fun w h => List.mem_cons_of_mem _ (i_Md w h)) hown hK.1 hP 0 (wMd_0 t a (gSt (gSt (gSt (gSt σ 0 0 0) 3 nc wd) 4 nc dp) 5 nc ht)) rfl 6 (by decide) (hts (.fieldLink R_Md 19 "FlatBoxesModel" "cents" "[I") (List.mem_cons_of_mem _ (gIn k_672 (by decide +kernel)))) (fun _ h9 => h9) rfl d_Md_carton_116 ?_
                  refine lv_aload_n hx hb d_Md_carton_119 rfl (lv_at hl 1 rfl) ?_
                  refine va_get (D := D) (ci := 7) (v := .int ((gSt (gSt (gSt (gSt σ 0 0 0) 3 nc wd) 4 nc dp) 5 nc ht) 2 0)) (C := R_Md) (T := F_Md) (N := 34) hx hb hts (fun w h => List.mem_cons_of_mem _ (i_Md w h)) hown hK.1 hP 0 (wMd_0 t a (gSt (gSt (gSt (gSt σ 0 0 0) 3 nc wd) 4 nc dp) 5 nc ht)) rfl 2 (by decide) (hts (.fieldLink R_Md 105 "FlatBoxesModel" "cartons" "I") (List.mem_cons_of_mem _ (gIn k_668 (by decide +kernel)))) (fun _ h9 => h9) rfl d_Md_carton_120 ?_
                  refine lv_topi (fun v_34 e_34 => ?_)
                  obtain rfl : nI nc = v_34 := (e_34.trans hC).symm
                  refine lv_iload hx hb d_Md_carton_123 (lv_at hl 5 rfl) ?_
                  refine g_iast hx hb hK.1 hP hD hS 4 0 (wMd_6 t a (gSt (gSt (gSt (gSt σ 0 0 0) 3 nc wd) 4 nc dp) 5 nc ht)) rfl nc (rfl) (by omega) (by decide) (w' := wMd t a (gSt (gSt (gSt (gSt (gSt σ 0 0 0) 3 nc wd) 4 nc dp) 5 nc ht) 6 nc ct)) (sMd_6 t a (gSt (gSt (gSt (gSt σ 0 0 0) 3 nc wd) 4 nc dp) 5 nc ht) nc ct) d_Md_carton_125 (fun H locs hP hD hS => ?_)
                  refine lv_aload_n hx hb d_Md_carton_126 rfl (lv_at hl 1 rfl) ?_
                  refine va_get (D := D) (ci := 7) (v := .ref (a 7)) (C := R_Md) (T := F_Md) (N := 34) hx hb hts (fun w h => List.mem_cons_of_mem _ (i_Md w h)) hown hK.1 hP 0 (wMd_0 t a (gSt (gSt (gSt (gSt (gSt σ 0 0 0) 3 nc wd) 4 nc dp) 5 nc ht) 6 nc ct)) rfl 7 (by decide) (hts (.fieldLink R_Md 22 "FlatBoxesModel" "bears" "[I") (List.mem_cons_of_mem _ (gIn k_673 (by decide +kernel)))) (fun _ h9 => h9) rfl d_Md_carton_127 ?_
                  refine lv_aload_n hx hb d_Md_carton_130 rfl (lv_at hl 1 rfl) ?_
                  refine va_get (D := D) (ci := 7) (v := .int ((gSt (gSt (gSt (gSt (gSt σ 0 0 0) 3 nc wd) 4 nc dp) 5 nc ht) 6 nc ct) 2 0)) (C := R_Md) (T := F_Md) (N := 34) hx hb hts (fun w h => List.mem_cons_of_mem _ (i_Md w h)) hown hK.1 hP 0 (wMd_0 t a (gSt (gSt (gSt (gSt (gSt σ 0 0 0) 3 nc wd) 4 nc dp) 5 nc ht) 6 nc ct)) rfl 2 (by decide) (hts (.fieldLink R_Md 105 "FlatBoxesModel" "cartons" "I") (List.mem_cons_of_mem _ (gIn k_668 (by decide +kernel)))) (fun _ h9 => h9) rfl d_Md_carton_131 ?_
                  refine lv_topi (fun v_35 e_35 => ?_)
                  obtain rfl : nI nc = v_35 := (e_35.trans hC).symm
                  refine lv_iload hx hb d_Md_carton_134 (lv_at hl 6 rfl) ?_
                  refine g_iast hx hb hK.1 hP hD hS 5 0 (wMd_7 t a (gSt (gSt (gSt (gSt (gSt σ 0 0 0) 3 nc wd) 4 nc dp) 5 nc ht) 6 nc ct)) rfl nc (rfl) (by omega) (by decide) (w' := wMd t a (gSt (gSt (gSt (gSt (gSt (gSt σ 0 0 0) 3 nc wd) 4 nc dp) 5 nc ht) 6 nc ct) 7 nc gr)) (sMd_7 t a (gSt (gSt (gSt (gSt (gSt σ 0 0 0) 3 nc wd) 4 nc dp) 5 nc ht) 6 nc ct) nc gr) d_Md_carton_136 (fun H locs hP hD hS => ?_)
                  refine lv_aload_n hx hb d_Md_carton_137 rfl (lv_at hl 1 rfl) ?_
                  refine lv_dup hx hb d_Md_carton_138 rfl ?_
                  refine va_get (D := D) (ci := 7) (v := .int ((gSt (gSt (gSt (gSt (gSt (gSt σ 0 0 0) 3 nc wd) 4 nc dp) 5 nc ht) 6 nc ct) 7 nc gr) 2 0)) (C := R_Md) (T := F_Md) (N := 34) hx hb hts (fun w h => List.mem_cons_of_mem _ (i_Md w h)) hown hK.1 hP 0 (wMd_0 t a (gSt (gSt (gSt (gSt (gSt (gSt σ 0 0 0) 3 nc wd) 4 nc dp) 5 nc ht) 6 nc ct) 7 nc gr)) rfl 2 (by decide) (hts (.fieldLink R_Md 105 "FlatBoxesModel" "cartons" "I") (List.mem_cons_of_mem _ (gIn k_668 (by decide +kernel)))) (fun _ h9 => h9) rfl d_Md_carton_139 ?_
                  refine lv_topi (fun v_36 e_36 => ?_)
                  obtain rfl : nI nc = v_36 := (e_36.trans hC).symm
                  refine lv_iconst (v := 1) hx hb d_Md_carton_142 (by decide) ?_
                  refine lv_iadd hx hb d_Md_carton_143 ?_
                  refine lv_topi (fun v_37 e_37 => ?_)
                  obtain rfl : nI (nc + 1) = v_37 := (e_37.trans (nI_1 _)).symm
                  refine va_put (D := D) (ci := 7) (v := .int (nI (nc + 1))) (ty := .int) (C := R_Md) (T := F_Md) (N := 34) hx hb hts (fun w h => List.mem_cons_of_mem _ (i_Md w h)) t_Md t_Md_ok n_Md hown hK.1 hP hD hS 0 (wMd_0 t a (gSt (gSt (gSt (gSt (gSt (gSt σ 0 0 0) 3 nc wd) 4 nc dp) 5 nc ht) 6 nc ct) 7 nc gr)) rfl 2 (by decide) (hts (.fieldLink R_Md 105 "FlatBoxesModel" "cartons" "I") (List.mem_cons_of_mem _ (gIn k_668 (by decide +kernel)))) (fun _ h9 => h9) rfl (by decide +kernel) rfl rfl (Nat.le_of_ble_eq_true rfl) d_Md_carton_144 (fun H locs hP hD hS => ?_)
                  have hP : va_P D gCl (wMd t a (gSt (gSt (gSt (gSt (gSt (gSt (gSt σ 0 0 0) 3 nc wd) 4 nc dp) 5 nc ht) 6 nc ct) 7 nc gr) 2 0 (nI (nc + 1)))) H := hP
                  have hD : va_D A (wMd t a (gSt (gSt (gSt (gSt (gSt (gSt (gSt σ 0 0 0) 3 nc wd) 4 nc dp) 5 nc ht) 6 nc ct) 7 nc gr) 2 0 (nI (nc + 1)))) := hD
                  refine lv_aload_n hx hb d_Md_carton_147 rfl (lv_at hl 1 rfl) ?_
                  refine lv_iconst (v := 0) hx hb d_Md_carton_148 (by decide) ?_
                  refine va_put (D := D) (ci := 7) (v := .int 0) (ty := .boolean) (C := R_Md) (T := F_Md) (N := 34) hx hb hts (fun w h => List.mem_cons_of_mem _ (i_Md w h)) t_Md t_Md_ok n_Md hown hK.1 hP hD hS 0 (wMd_0 t a (gSt (gSt (gSt (gSt (gSt (gSt (gSt σ 0 0 0) 3 nc wd) 4 nc dp) 5 nc ht) 6 nc ct) 7 nc gr) 2 0 (nI (nc + 1)))) rfl 24 (by decide) (hts (.fieldLink R_Md 108 "FlatBoxesModel" "hasShares" "Z") (List.mem_cons_of_mem _ (gIn k_690 (by decide +kernel)))) (fun _ h9 => h9) rfl (by decide +kernel) rfl rfl (Nat.le_of_ble_eq_true rfl) d_Md_carton_149 (fun H locs hP hD hS => ?_)
                  have hP : va_P D gCl (wMd t a (gSt (gSt (gSt (gSt (gSt (gSt (gSt (gSt σ 0 0 0) 3 nc wd) 4 nc dp) 5 nc ht) 6 nc ct) 7 nc gr) 2 0 (nI (nc + 1))) 24 0 0)) H := hP
                  have hD : va_D A (wMd t a (gSt (gSt (gSt (gSt (gSt (gSt (gSt (gSt σ 0 0 0) 3 nc wd) 4 nc dp) 5 nc ht) 6 nc ct) 7 nc gr) 2 0 (nI (nc + 1))) 24 0 0)) := hD
                  refine lv_aload_n hx hb d_Md_carton_152 rfl (lv_at hl 1 rfl) ?_
                  refine va_get (D := D) (ci := 7) (v := .int ((gSt (gSt (gSt (gSt (gSt (gSt (gSt (gSt σ 0 0 0) 3 nc wd) 4 nc dp) 5 nc ht) 6 nc ct) 7 nc gr) 2 0 (nI (nc + 1))) 24 0 0) 2 0)) (C := R_Md) (T := F_Md) (N := 34) hx hb hts (fun w h => List.mem_cons_of_mem _ (i_Md w h)) hown hK.1 hP 0 (wMd_0 t a (gSt (gSt (gSt (gSt (gSt (gSt (gSt (gSt σ 0 0 0) 3 nc wd) 4 nc dp) 5 nc ht) 6 nc ct) 7 nc gr) 2 0 (nI (nc + 1))) 24 0 0)) rfl 2 (by decide) (hts (.fieldLink R_Md 105 "FlatBoxesModel" "cartons" "I") (List.mem_cons_of_mem _ (gIn k_668 (by decide +kernel)))) (fun _ h9 => h9) rfl d_Md_carton_153 ?_
                  refine lv_topi (fun v_38 e_38 => ?_)
                  obtain rfl : nI (nc + 1) = v_38 := (e_38.trans (rfl)).symm
                  refine lv_iconst (v := 1) hx hb d_Md_carton_156 (by decide) ?_
                  refine lv_isub hx hb d_Md_carton_157 ?_
                  refine lv_topi (fun v_39 e_39 => ?_)
                  obtain rfl : nI nc = v_39 := (e_39.trans (nI_pred nc)).symm
                  exact W.iret (v := nI nc) hx hb hr (fun U hU hW => ⟨⟨nI nc, gSt (gSt (gSt (gSt (gSt (gSt (gSt (gSt σ 0 0 0) 3 nc wd) 4 nc dp) 5 nc ht) 6 nc ct) 7 nc gr) 2 0 (nI (nc + 1))) 24 0 0, rfl, by exact ⟨by simp [mCartonR, mCartonC, mAll, c_2, c_7, c_12, c_17, c_22, c_26, c_28, h_28, c_30], by simp [mCartonU, mCartonC, mAll, c_2, c_7, c_12, c_17, c_22, c_26, c_28, h_28, c_30]⟩, by rw [hU]; exact hP, hD⟩, hS.F hU⟩) hS.2.2 d_Md_carton_158
                · 
                  exact absurd c_30 (by decide)
              · 
                have h_28 : nc = 4 := (nI_eq (a := nc) (b := 4) (by omega) (by omega)).mp c_28
                refine lv_iconst (v := 2) hx hb d_Md_carton_68 (by decide) ?_
                refine lv_goto (tgt := 73) hx hb d_Md_carton_69 (by decide) ?_
                refine va_put (D := D) (ci := 7) (v := .int 2) (ty := .int) (C := R_Md) (T := F_Md) (N := 34) hx hb hts (fun w h => List.mem_cons_of_mem _ (i_Md w h)) t_Md t_Md_ok n_Md hown hK.1 hP hD hS 0 (wMd_0 t a σ) rfl 0 (by decide) (hts (.fieldLink R_Md 93 "FlatBoxesModel" "code" "I") (List.mem_cons_of_mem _ (gIn k_666 (by decide +kernel)))) (fun _ h9 => h9) rfl (by decide +kernel) rfl rfl (Nat.le_of_ble_eq_true rfl) d_Md_carton_73 (fun H locs hP hD hS => ?_)
                have hP : va_P D gCl (wMd t a (gSt σ 0 0 2)) H := hP
                have hD : va_D A (wMd t a (gSt σ 0 0 2)) := hD
                refine lv_aload_n hx hb d_Md_carton_76 rfl (lv_at hl 1 rfl) ?_
                refine va_get (D := D) (ci := 7) (v := .int ((gSt σ 0 0 2) 0 0)) (C := R_Md) (T := F_Md) (N := 34) hx hb hts (fun w h => List.mem_cons_of_mem _ (i_Md w h)) hown hK.1 hP 0 (wMd_0 t a (gSt σ 0 0 2)) rfl 0 (by decide) (hts (.fieldLink R_Md 93 "FlatBoxesModel" "code" "I") (List.mem_cons_of_mem _ (gIn k_666 (by decide +kernel)))) (fun _ h9 => h9) rfl d_Md_carton_77 ?_
                refine lv_topi (fun v_40 e_40 => ?_)
                obtain rfl : 2 = v_40 := (e_40.trans (rfl)).symm
                refine lv_if_le (tgt := 85) hx hb d_Md_carton_80 (by decide) (fun c_41 => ?_) (fun c_41 => ?_)
                · 
                  exact absurd c_41 (by decide)
                · 
                  refine lv_iconst (v := 0) hx hb d_Md_carton_83 (by decide) ?_
                  exact W.iret (v := 0) hx hb hr (fun U hU hW => ⟨⟨0, gSt σ 0 0 2, rfl, by exact ⟨by simp [mCartonR, mCartonC, mAll, c_2, c_7, c_12, c_17, c_22, c_26, c_28, h_28, c_41], by simp [mCartonU, mCartonC, mAll, c_2, c_7, c_12, c_17, c_22, c_26, c_28, h_28, c_41]⟩, by rw [hU]; exact hP, hD⟩, hS.F hU⟩) hS.2.2 d_Md_carton_84
            · 
              exact absurd c_26 (by decide)
set_option maxHeartbeats 4000000 in
set_option maxRecDepth 100000 in
theorem c_Md_part (l : Launch) (D : va_G) (t : Nat → ClassId) (a : Nat → Nat) (σ : Nat → Nat → Int32) (wd dp ht gr sp : Int32) (np : Nat) (hN : σ 8 0 = nI np) (hN8 : np ≤ 8) : gMi l D t y_Md_part b_Md_part 7 (some .int) 2 [.ref (a 0), .int wd, .int dp, .int ht, .int gr, .int sp] (wMd t a σ) (wMd t a) (fun r u => r = mPartR np wd dp ht gr sp ∧ u = mPartU σ np wd dp ht gr sp) := by
  intro A
  refine Met.ofW (cc := b_Md_part) (maxL := 7) (ret := (some .int)) (by decide) rfl ?_
  intro p e s m args below meth c s₁ B hml hv
  obtain ⟨rfl, hK, hP, hD⟩ := hv
  have hx := B.exec
  have hb := B.bytes
  have hr := B.returns
  have hts := atoms_spec (ws := .code y_Md_part b_Md_part 7 (some .int) :: gBig) B.pre
  have hown : s.vm.findClass R_Md = some m.cls := findClass_of_methodNamed B.named
  have hlocks := B.notSynchronized
  have hS : va_S A s.heap s.heap [] := va_S.rf
  have hl := lv_entry ([.ref (a 0), .int wd, .int dp, .int ht, .int gr, .int sp]) (n := 7) (Nat.le_of_ble_eq_true rfl)
  rw [lg_entry_eq]
  generalize (lg_sl ([.ref (a 0), .int wd, .int dp, .int ht, .int gr, .int sp]) ++ List.replicate (7 - (lg_sl ([.ref (a 0), .int wd, .int dp, .int ht, .int gr, .int sp])).length) Slot.unset).toArray = ls at hl ⊢
  have hl : lv_has ls 7 [(0, .ref (a 0)), (1, .int wd), (2, .int dp), (3, .int ht), (4, .int gr), (5, .int sp)] := hl
  show gGo l p e s m below meth c D t A 2 [.ref (a 0), .int wd, .int dp, .int ht, .int gr, .int sp] (wMd t a) (fun r u => r = mPartR np wd dp ht gr sp ∧ u = mPartU σ np wd dp ht gr sp) s.heap [] (F0 m 0 ls [])
  refine lv_iload_n hx hb d_Md_part_0 rfl (lv_at hl 1 rfl) ?_
  refine g_si (k := 1) (As := [.int wd]) (rest := []) (own := R_Md) (index := 100) ⟨hx, hb, hml, hown, hts⟩ (c_Md_isSide l D t a σ wd) (gg_Md_100 _) (by decide +kernel) ⟨Nat.le_of_ble_eq_true rfl, Nat.le_of_ble_eq_true rfl⟩ rfl hK hP hD hS hl.1 rfl (Nat.le_of_ble_eq_true rfl) ⟨Nat.zero_le _, Nat.zero_le _⟩ d_Md_part_1 (fun r_1 u_1 H locs q_1 hP hD hS => ?_)
  obtain ⟨rfl, hu_1⟩ := q_1
  rw [hu_1] at hP hD
  refine lv_if_eq (tgt := 47) hx hb d_Md_part_4 (by decide) (fun c_2 => ?_) (fun c_2 => ?_)
  · 
    refine lv_iconst (v := 0) hx hb d_Md_part_47 (by decide) ?_
    refine lv_istore (lv' := [(6, .int 0), (0, .ref (a 0)), (1, .int wd), (2, .int dp), (3, .int ht), (4, .int gr), (5, .int sp)]) hx hb d_Md_part_48 hl (by decide) rfl (fun ls hl => ?_)
    refine lv_aload_n hx hb d_Md_part_50 rfl (lv_at hl 1 rfl) ?_
    refine lv_iload hx hb d_Md_part_51 (lv_at hl 0 rfl) ?_
    refine lv_if_ne (tgt := 60) hx hb d_Md_part_53 (by decide) (fun c_3 => ?_) (fun c_3 => ?_)
    · 
      exact absurd c_3 (by decide)
    · 
      refine lv_iconst (v := 1) hx hb d_Md_part_56 (by decide) ?_
      refine lv_goto (tgt := 74) hx hb d_Md_part_57 (by decide) ?_
      refine va_put (D := D) (ci := 7) (v := .int 1) (ty := .int) (C := R_Md) (T := F_Md) (N := 34) hx hb hts (fun w h => List.mem_cons_of_mem _ (i_Md w h)) t_Md t_Md_ok n_Md hown hK.1 hP hD hS 0 (wMd_0 t a σ) rfl 0 (by decide) (hts (.fieldLink R_Md 93 "FlatBoxesModel" "code" "I") (List.mem_cons_of_mem _ (gIn k_666 (by decide +kernel)))) (fun _ h9 => h9) rfl (by decide +kernel) rfl rfl (Nat.le_of_ble_eq_true rfl) d_Md_part_74 (fun H locs hP hD hS => ?_)
      have hP : va_P D gCl (wMd t a (gSt σ 0 0 1)) H := hP
      have hD : va_D A (wMd t a (gSt σ 0 0 1)) := hD
      refine lv_aload_n hx hb d_Md_part_77 rfl (lv_at hl 1 rfl) ?_
      refine va_get (D := D) (ci := 7) (v := .int ((gSt σ 0 0 1) 0 0)) (C := R_Md) (T := F_Md) (N := 34) hx hb hts (fun w h => List.mem_cons_of_mem _ (i_Md w h)) hown hK.1 hP 0 (wMd_0 t a (gSt σ 0 0 1)) rfl 0 (by decide) (hts (.fieldLink R_Md 93 "FlatBoxesModel" "code" "I") (List.mem_cons_of_mem _ (gIn k_666 (by decide +kernel)))) (fun _ h9 => h9) rfl d_Md_part_78 ?_
      refine lv_topi (fun v_4 e_4 => ?_)
      obtain rfl : 1 = v_4 := (e_4.trans (rfl)).symm
      refine lv_if_le (tgt := 86) hx hb d_Md_part_81 (by decide) (fun c_5 => ?_) (fun c_5 => ?_)
      · 
        exact absurd c_5 (by decide)
      · 
        refine lv_iconst (v := 0) hx hb d_Md_part_84 (by decide) ?_
        exact W.iret (v := 0) hx hb hr (fun U hU hW => ⟨⟨0, gSt σ 0 0 1, rfl, by exact ⟨by simp [mPartR, mPartC, mAll, c_2, c_3, c_5], by simp [mPartU, mPartC, mAll, c_2, c_3, c_5]⟩, by rw [hU]; exact hP, hD⟩, hS.F hU⟩) hS.2.2 d_Md_part_85
  · 
    refine lv_iload_n hx hb d_Md_part_7 rfl (lv_at hl 2 rfl) ?_
    refine g_si (k := 1) (As := [.int dp]) (rest := []) (own := R_Md) (index := 100) ⟨hx, hb, hml, hown, hts⟩ (c_Md_isSide l D t a σ dp) (gg_Md_100 _) (by decide +kernel) ⟨Nat.le_of_ble_eq_true rfl, Nat.le_of_ble_eq_true rfl⟩ rfl hK hP hD hS hl.1 rfl (Nat.le_of_ble_eq_true rfl) ⟨Nat.zero_le _, Nat.zero_le _⟩ d_Md_part_8 (fun r_6 u_6 H locs q_6 hP hD hS => ?_)
    obtain ⟨rfl, hu_6⟩ := q_6
    rw [hu_6] at hP hD
    refine lv_if_eq (tgt := 47) hx hb d_Md_part_11 (by decide) (fun c_7 => ?_) (fun c_7 => ?_)
    · 
      refine lv_iconst (v := 0) hx hb d_Md_part_47 (by decide) ?_
      refine lv_istore (lv' := [(6, .int 0), (0, .ref (a 0)), (1, .int wd), (2, .int dp), (3, .int ht), (4, .int gr), (5, .int sp)]) hx hb d_Md_part_48 hl (by decide) rfl (fun ls hl => ?_)
      refine lv_aload_n hx hb d_Md_part_50 rfl (lv_at hl 1 rfl) ?_
      refine lv_iload hx hb d_Md_part_51 (lv_at hl 0 rfl) ?_
      refine lv_if_ne (tgt := 60) hx hb d_Md_part_53 (by decide) (fun c_8 => ?_) (fun c_8 => ?_)
      · 
        exact absurd c_8 (by decide)
      · 
        refine lv_iconst (v := 1) hx hb d_Md_part_56 (by decide) ?_
        refine lv_goto (tgt := 74) hx hb d_Md_part_57 (by decide) ?_
        refine va_put (D := D) (ci := 7) (v := .int 1) (ty := .int) (C := R_Md) (T := F_Md) (N := 34) hx hb hts (fun w h => List.mem_cons_of_mem _ (i_Md w h)) t_Md t_Md_ok n_Md hown hK.1 hP hD hS 0 (wMd_0 t a σ) rfl 0 (by decide) (hts (.fieldLink R_Md 93 "FlatBoxesModel" "code" "I") (List.mem_cons_of_mem _ (gIn k_666 (by decide +kernel)))) (fun _ h9 => h9) rfl (by decide +kernel) rfl rfl (Nat.le_of_ble_eq_true rfl) d_Md_part_74 (fun H locs hP hD hS => ?_)
        have hP : va_P D gCl (wMd t a (gSt σ 0 0 1)) H := hP
        have hD : va_D A (wMd t a (gSt σ 0 0 1)) := hD
        refine lv_aload_n hx hb d_Md_part_77 rfl (lv_at hl 1 rfl) ?_
        refine va_get (D := D) (ci := 7) (v := .int ((gSt σ 0 0 1) 0 0)) (C := R_Md) (T := F_Md) (N := 34) hx hb hts (fun w h => List.mem_cons_of_mem _ (i_Md w h)) hown hK.1 hP 0 (wMd_0 t a (gSt σ 0 0 1)) rfl 0 (by decide) (hts (.fieldLink R_Md 93 "FlatBoxesModel" "code" "I") (List.mem_cons_of_mem _ (gIn k_666 (by decide +kernel)))) (fun _ h9 => h9) rfl d_Md_part_78 ?_
        refine lv_topi (fun v_9 e_9 => ?_)
        obtain rfl : 1 = v_9 := (e_9.trans (rfl)).symm
        refine lv_if_le (tgt := 86) hx hb d_Md_part_81 (by decide) (fun c_10 => ?_) (fun c_10 => ?_)
        · 
          exact absurd c_10 (by decide)
        · 
          refine lv_iconst (v := 0) hx hb d_Md_part_84 (by decide) ?_
          exact W.iret (v := 0) hx hb hr (fun U hU hW => ⟨⟨0, gSt σ 0 0 1, rfl, by exact ⟨by simp [mPartR, mPartC, mAll, c_2, c_7, c_8, c_10], by simp [mPartU, mPartC, mAll, c_2, c_7, c_8, c_10]⟩, by rw [hU]; exact hP, hD⟩, hS.F hU⟩) hS.2.2 d_Md_part_85
    · 
      refine lv_iload_n hx hb d_Md_part_14 rfl (lv_at hl 3 rfl) ?_
      refine g_si (k := 1) (As := [.int ht]) (rest := []) (own := R_Md) (index := 100) ⟨hx, hb, hml, hown, hts⟩ (c_Md_isSide l D t a σ ht) (gg_Md_100 _) (by decide +kernel) ⟨Nat.le_of_ble_eq_true rfl, Nat.le_of_ble_eq_true rfl⟩ rfl hK hP hD hS hl.1 rfl (Nat.le_of_ble_eq_true rfl) ⟨Nat.zero_le _, Nat.zero_le _⟩ d_Md_part_15 (fun r_11 u_11 H locs q_11 hP hD hS => ?_)
      obtain ⟨rfl, hu_11⟩ := q_11
      rw [hu_11] at hP hD
      refine lv_if_eq (tgt := 47) hx hb d_Md_part_18 (by decide) (fun c_12 => ?_) (fun c_12 => ?_)
      · 
        refine lv_iconst (v := 0) hx hb d_Md_part_47 (by decide) ?_
        refine lv_istore (lv' := [(6, .int 0), (0, .ref (a 0)), (1, .int wd), (2, .int dp), (3, .int ht), (4, .int gr), (5, .int sp)]) hx hb d_Md_part_48 hl (by decide) rfl (fun ls hl => ?_)
        refine lv_aload_n hx hb d_Md_part_50 rfl (lv_at hl 1 rfl) ?_
        refine lv_iload hx hb d_Md_part_51 (lv_at hl 0 rfl) ?_
        refine lv_if_ne (tgt := 60) hx hb d_Md_part_53 (by decide) (fun c_13 => ?_) (fun c_13 => ?_)
        · 
          exact absurd c_13 (by decide)
        · 
          refine lv_iconst (v := 1) hx hb d_Md_part_56 (by decide) ?_
          refine lv_goto (tgt := 74) hx hb d_Md_part_57 (by decide) ?_
          refine va_put (D := D) (ci := 7) (v := .int 1) (ty := .int) (C := R_Md) (T := F_Md) (N := 34) hx hb hts (fun w h => List.mem_cons_of_mem _ (i_Md w h)) t_Md t_Md_ok n_Md hown hK.1 hP hD hS 0 (wMd_0 t a σ) rfl 0 (by decide) (hts (.fieldLink R_Md 93 "FlatBoxesModel" "code" "I") (List.mem_cons_of_mem _ (gIn k_666 (by decide +kernel)))) (fun _ h9 => h9) rfl (by decide +kernel) rfl rfl (Nat.le_of_ble_eq_true rfl) d_Md_part_74 (fun H locs hP hD hS => ?_)
          have hP : va_P D gCl (wMd t a (gSt σ 0 0 1)) H := hP
          have hD : va_D A (wMd t a (gSt σ 0 0 1)) := hD
          refine lv_aload_n hx hb d_Md_part_77 rfl (lv_at hl 1 rfl) ?_
          refine va_get (D := D) (ci := 7) (v := .int ((gSt σ 0 0 1) 0 0)) (C := R_Md) (T := F_Md) (N := 34) hx hb hts (fun w h => List.mem_cons_of_mem _ (i_Md w h)) hown hK.1 hP 0 (wMd_0 t a (gSt σ 0 0 1)) rfl 0 (by decide) (hts (.fieldLink R_Md 93 "FlatBoxesModel" "code" "I") (List.mem_cons_of_mem _ (gIn k_666 (by decide +kernel)))) (fun _ h9 => h9) rfl d_Md_part_78 ?_
          refine lv_topi (fun v_14 e_14 => ?_)
          obtain rfl : 1 = v_14 := (e_14.trans (rfl)).symm
          refine lv_if_le (tgt := 86) hx hb d_Md_part_81 (by decide) (fun c_15 => ?_) (fun c_15 => ?_)
          · 
            exact absurd c_15 (by decide)
          · 
            refine lv_iconst (v := 0) hx hb d_Md_part_84 (by decide) ?_
            exact W.iret (v := 0) hx hb hr (fun U hU hW => ⟨⟨0, gSt σ 0 0 1, rfl, by exact ⟨by simp [mPartR, mPartC, mAll, c_2, c_7, c_12, c_13, c_15], by simp [mPartU, mPartC, mAll, c_2, c_7, c_12, c_13, c_15]⟩, by rw [hU]; exact hP, hD⟩, hS.F hU⟩) hS.2.2 d_Md_part_85
      · 
        refine lv_iload hx hb d_Md_part_21 (lv_at hl 4 rfl) ?_
        refine lv_iconst (v := 1) hx hb d_Md_part_23 (by decide) ?_
        refine lv_ldc hx hb hown (hts (.constant R_Md 112 50000) (List.mem_cons_of_mem _ (gIn k_788 (by decide +kernel)))) d_Md_part_24 ?_
        refine g_si (k := 3) (As := [.int gr, .int 1, .int 50000]) (rest := []) (own := R_Md) (index := 96) ⟨hx, hb, hml, hown, hts⟩ (c_Md_in l D t a σ gr 1 50000) (gg_Md_96 _) (by decide +kernel) ⟨Nat.le_of_ble_eq_true rfl, Nat.le_of_ble_eq_true rfl⟩ rfl hK hP hD hS hl.1 rfl (Nat.le_of_ble_eq_true rfl) ⟨Nat.zero_le _, Nat.zero_le _⟩ d_Md_part_26 (fun r_16 u_16 H locs q_16 hP hD hS => ?_)
        obtain ⟨rfl, hu_16⟩ := q_16
        rw [hu_16] at hP hD
        refine lv_if_eq (tgt := 47) hx hb d_Md_part_29 (by decide) (fun c_17 => ?_) (fun c_17 => ?_)
        · 
          refine lv_iconst (v := 0) hx hb d_Md_part_47 (by decide) ?_
          refine lv_istore (lv' := [(6, .int 0), (0, .ref (a 0)), (1, .int wd), (2, .int dp), (3, .int ht), (4, .int gr), (5, .int sp)]) hx hb d_Md_part_48 hl (by decide) rfl (fun ls hl => ?_)
          refine lv_aload_n hx hb d_Md_part_50 rfl (lv_at hl 1 rfl) ?_
          refine lv_iload hx hb d_Md_part_51 (lv_at hl 0 rfl) ?_
          refine lv_if_ne (tgt := 60) hx hb d_Md_part_53 (by decide) (fun c_18 => ?_) (fun c_18 => ?_)
          · 
            exact absurd c_18 (by decide)
          · 
            refine lv_iconst (v := 1) hx hb d_Md_part_56 (by decide) ?_
            refine lv_goto (tgt := 74) hx hb d_Md_part_57 (by decide) ?_
            refine va_put (D := D) (ci := 7) (v := .int 1) (ty := .int) (C := R_Md) (T := F_Md) (N := 34) hx hb hts (fun w h => List.mem_cons_of_mem _ (i_Md w h)) t_Md t_Md_ok n_Md hown hK.1 hP hD hS 0 (wMd_0 t a σ) rfl 0 (by decide) (hts (.fieldLink R_Md 93 "FlatBoxesModel" "code" "I") (List.mem_cons_of_mem _ (gIn k_666 (by decide +kernel)))) (fun _ h9 => h9) rfl (by decide +kernel) rfl rfl (Nat.le_of_ble_eq_true rfl) d_Md_part_74 (fun H locs hP hD hS => ?_)
            have hP : va_P D gCl (wMd t a (gSt σ 0 0 1)) H := hP
            have hD : va_D A (wMd t a (gSt σ 0 0 1)) := hD
            refine lv_aload_n hx hb d_Md_part_77 rfl (lv_at hl 1 rfl) ?_
            refine va_get (D := D) (ci := 7) (v := .int ((gSt σ 0 0 1) 0 0)) (C := R_Md) (T := F_Md) (N := 34) hx hb hts (fun w h => List.mem_cons_of_mem _ (i_Md w h)) hown hK.1 hP 0 (wMd_0 t a (gSt σ 0 0 1)) rfl 0 (by decide) (hts (.fieldLink R_Md 93 "FlatBoxesModel" "code" "I") (List.mem_cons_of_mem _ (gIn k_666 (by decide +kernel)))) (fun _ h9 => h9) rfl d_Md_part_78 ?_
            refine lv_topi (fun v_19 e_19 => ?_)
            obtain rfl : 1 = v_19 := (e_19.trans (rfl)).symm
            refine lv_if_le (tgt := 86) hx hb d_Md_part_81 (by decide) (fun c_20 => ?_) (fun c_20 => ?_)
            · 
              exact absurd c_20 (by decide)
            · 
              refine lv_iconst (v := 0) hx hb d_Md_part_84 (by decide) ?_
              exact W.iret (v := 0) hx hb hr (fun U hU hW => ⟨⟨0, gSt σ 0 0 1, rfl, by exact ⟨by simp [mPartR, mPartC, mAll, c_2, c_7, c_12, c_17, c_18, c_20], by simp [mPartU, mPartC, mAll, c_2, c_7, c_12, c_17, c_18, c_20]⟩, by rw [hU]; exact hP, hD⟩, hS.F hU⟩) hS.2.2 d_Md_part_85
        · 
          refine lv_iload hx hb d_Md_part_32 (lv_at hl 5 rfl) ?_
          refine lv_iconst (v := 0) hx hb d_Md_part_34 (by decide) ?_
          refine lv_bipush (v := 50) hx hb d_Md_part_35 (by decide) ?_
          refine g_si (k := 3) (As := [.int sp, .int 0, .int 50]) (rest := []) (own := R_Md) (index := 96) ⟨hx, hb, hml, hown, hts⟩ (c_Md_in l D t a σ sp 0 50) (gg_Md_96 _) (by decide +kernel) ⟨Nat.le_of_ble_eq_true rfl, Nat.le_of_ble_eq_true rfl⟩ rfl hK hP hD hS hl.1 rfl (Nat.le_of_ble_eq_true rfl) ⟨Nat.zero_le _, Nat.zero_le _⟩ d_Md_part_37 (fun r_21 u_21 H locs q_21 hP hD hS => ?_)
          obtain ⟨rfl, hu_21⟩ := q_21
          rw [hu_21] at hP hD
          refine lv_if_eq (tgt := 47) hx hb d_Md_part_40 (by decide) (fun c_22 => ?_) (fun c_22 => ?_)
          · 
            refine lv_iconst (v := 0) hx hb d_Md_part_47 (by decide) ?_
            refine lv_istore (lv' := [(6, .int 0), (0, .ref (a 0)), (1, .int wd), (2, .int dp), (3, .int ht), (4, .int gr), (5, .int sp)]) hx hb d_Md_part_48 hl (by decide) rfl (fun ls hl => ?_)
            refine lv_aload_n hx hb d_Md_part_50 rfl (lv_at hl 1 rfl) ?_
            refine lv_iload hx hb d_Md_part_51 (lv_at hl 0 rfl) ?_
            refine lv_if_ne (tgt := 60) hx hb d_Md_part_53 (by decide) (fun c_23 => ?_) (fun c_23 => ?_)
            · 
              exact absurd c_23 (by decide)
            · 
              refine lv_iconst (v := 1) hx hb d_Md_part_56 (by decide) ?_
              refine lv_goto (tgt := 74) hx hb d_Md_part_57 (by decide) ?_
              refine va_put (D := D) (ci := 7) (v := .int 1) (ty := .int) (C := R_Md) (T := F_Md) (N := 34) hx hb hts (fun w h => List.mem_cons_of_mem _ (i_Md w h)) t_Md t_Md_ok n_Md hown hK.1 hP hD hS 0 (wMd_0 t a σ) rfl 0 (by decide) (hts (.fieldLink R_Md 93 "FlatBoxesModel" "code" "I") (List.mem_cons_of_mem _ (gIn k_666 (by decide +kernel)))) (fun _ h9 => h9) rfl (by decide +kernel) rfl rfl (Nat.le_of_ble_eq_true rfl) d_Md_part_74 (fun H locs hP hD hS => ?_)
              have hP : va_P D gCl (wMd t a (gSt σ 0 0 1)) H := hP
              have hD : va_D A (wMd t a (gSt σ 0 0 1)) := hD
              refine lv_aload_n hx hb d_Md_part_77 rfl (lv_at hl 1 rfl) ?_
              refine va_get (D := D) (ci := 7) (v := .int ((gSt σ 0 0 1) 0 0)) (C := R_Md) (T := F_Md) (N := 34) hx hb hts (fun w h => List.mem_cons_of_mem _ (i_Md w h)) hown hK.1 hP 0 (wMd_0 t a (gSt σ 0 0 1)) rfl 0 (by decide) (hts (.fieldLink R_Md 93 "FlatBoxesModel" "code" "I") (List.mem_cons_of_mem _ (gIn k_666 (by decide +kernel)))) (fun _ h9 => h9) rfl d_Md_part_78 ?_
              refine lv_topi (fun v_24 e_24 => ?_)
              obtain rfl : 1 = v_24 := (e_24.trans (rfl)).symm
              refine lv_if_le (tgt := 86) hx hb d_Md_part_81 (by decide) (fun c_25 => ?_) (fun c_25 => ?_)
              · 
                exact absurd c_25 (by decide)
              · 
                refine lv_iconst (v := 0) hx hb d_Md_part_84 (by decide) ?_
                exact W.iret (v := 0) hx hb hr (fun U hU hW => ⟨⟨0, gSt σ 0 0 1, rfl, by exact ⟨by simp [mPartR, mPartC, mAll, c_2, c_7, c_12, c_17, c_22, c_23, c_25], by simp [mPartU, mPartC, mAll, c_2, c_7, c_12, c_17, c_22, c_23, c_25]⟩, by rw [hU]; exact hP, hD⟩, hS.F hU⟩) hS.2.2 d_Md_part_85
          · 
            refine lv_iconst (v := 1) hx hb d_Md_part_43 (by decide) ?_
            refine lv_goto (tgt := 48) hx hb d_Md_part_44 (by decide) ?_
            refine lv_istore (lv' := [(6, .int 1), (0, .ref (a 0)), (1, .int wd), (2, .int dp), (3, .int ht), (4, .int gr), (5, .int sp)]) hx hb d_Md_part_48 hl (by decide) rfl (fun ls hl => ?_)
            refine lv_aload_n hx hb d_Md_part_50 rfl (lv_at hl 1 rfl) ?_
            refine lv_iload hx hb d_Md_part_51 (lv_at hl 0 rfl) ?_
            refine lv_if_ne (tgt := 60) hx hb d_Md_part_53 (by decide) (fun c_26 => ?_) (fun c_26 => ?_)
            · 
              refine lv_aload_n hx hb d_Md_part_60 rfl (lv_at hl 1 rfl) ?_
              refine va_get (D := D) (ci := 7) (v := .int (σ 8 0)) (C := R_Md) (T := F_Md) (N := 34) hx hb hts (fun w h => List.mem_cons_of_mem _ (i_Md w h)) hown hK.1 hP 0 (wMd_0 t a σ) rfl 8 (by decide) (hts (.fieldLink R_Md 113 "FlatBoxesModel" "parts" "I") (List.mem_cons_of_mem _ (gIn k_674 (by decide +kernel)))) (fun _ h9 => h9) rfl d_Md_part_61 ?_
              refine lv_topi (fun v_27 e_27 => ?_)
              obtain rfl : nI np = v_27 := (e_27.trans hN).symm
              refine lv_bipush (v := 8) hx hb d_Md_part_64 (by decide) ?_
              refine lv_icmp_ne (tgt := 73) hx hb d_Md_part_66 (by decide) (fun c_28 => ?_) (fun c_28 => ?_)
              · 
                have h_28 : ¬ np = 8 := fun q9 => c_28 ((nI_eq (a := np) (b := 8) (by omega) (by omega)).mpr q9)
                refine lv_iconst (v := 0) hx hb d_Md_part_73 (by decide) ?_
                refine va_put (D := D) (ci := 7) (v := .int 0) (ty := .int) (C := R_Md) (T := F_Md) (N := 34) hx hb hts (fun w h => List.mem_cons_of_mem _ (i_Md w h)) t_Md t_Md_ok n_Md hown hK.1 hP hD hS 0 (wMd_0 t a σ) rfl 0 (by decide) (hts (.fieldLink R_Md 93 "FlatBoxesModel" "code" "I") (List.mem_cons_of_mem _ (gIn k_666 (by decide +kernel)))) (fun _ h9 => h9) rfl (by decide +kernel) rfl rfl (Nat.le_of_ble_eq_true rfl) d_Md_part_74 (fun H locs hP hD hS => ?_)
                have hP : va_P D gCl (wMd t a (gSt σ 0 0 0)) H := hP
                have hD : va_D A (wMd t a (gSt σ 0 0 0)) := hD
                refine lv_aload_n hx hb d_Md_part_77 rfl (lv_at hl 1 rfl) ?_
                refine va_get (D := D) (ci := 7) (v := .int ((gSt σ 0 0 0) 0 0)) (C := R_Md) (T := F_Md) (N := 34) hx hb hts (fun w h => List.mem_cons_of_mem _ (i_Md w h)) hown hK.1 hP 0 (wMd_0 t a (gSt σ 0 0 0)) rfl 0 (by decide) (hts (.fieldLink R_Md 93 "FlatBoxesModel" "code" "I") (List.mem_cons_of_mem _ (gIn k_666 (by decide +kernel)))) (fun _ h9 => h9) rfl d_Md_part_78 ?_
                refine lv_topi (fun v_29 e_29 => ?_)
                obtain rfl : 0 = v_29 := (e_29.trans (rfl)).symm
                refine lv_if_le (tgt := 86) hx hb d_Md_part_81 (by decide) (fun c_30 => ?_) (fun c_30 => ?_)
                · 
                  refine lv_aload_n hx hb d_Md_part_86 rfl (lv_at hl 1 rfl) ?_
                  refine va_get (D := D) (ci := 7) (v := .ref (a 9)) (C := R_Md) (T := F_Md) (N := 34) hx hb hts (fun w h => List.mem_cons_of_mem _ (i_Md w h)) hown hK.1 hP 0 (wMd_0 t a (gSt σ 0 0 0)) rfl 9 (by decide) (hts (.fieldLink R_Md 25 "FlatBoxesModel" "wides" "[I") (List.mem_cons_of_mem _ (gIn k_675 (by decide +kernel)))) (fun _ h9 => h9) rfl d_Md_part_87 ?_
                  refine lv_aload_n hx hb d_Md_part_90 rfl (lv_at hl 1 rfl) ?_
                  refine va_get (D := D) (ci := 7) (v := .int ((gSt σ 0 0 0) 8 0)) (C := R_Md) (T := F_Md) (N := 34) hx hb hts (fun w h => List.mem_cons_of_mem _ (i_Md w h)) hown hK.1 hP 0 (wMd_0 t a (gSt σ 0 0 0)) rfl 8 (by decide) (hts (.fieldLink R_Md 113 "FlatBoxesModel" "parts" "I") (List.mem_cons_of_mem _ (gIn k_674 (by decide +kernel)))) (fun _ h9 => h9) rfl d_Md_part_91 ?_
                  refine lv_topi (fun v_31 e_31 => ?_)
                  obtain rfl : nI np = v_31 := (e_31.trans hN).symm
                  refine lv_iload_n hx hb d_Md_part_94 rfl (lv_at hl 2 rfl) ?_
                  refine g_iast hx hb hK.1 hP hD hS 6 0 (wMd_9 t a (gSt σ 0 0 0)) rfl np (rfl) (by omega) (by decide) (w' := wMd t a (gSt (gSt σ 0 0 0) 9 np wd)) (sMd_9 t a (gSt σ 0 0 0) np wd) d_Md_part_95 (fun H locs hP hD hS => ?_)
                  refine lv_aload_n hx hb d_Md_part_96 rfl (lv_at hl 1 rfl) ?_
                  refine va_get (D := D) (ci := 7) (v := .ref (a 10)) (C := R_Md) (T := F_Md) (N := 34) hx hb hts (fun w h => List.mem_cons_of_mem _ (i_Md w h)) hown hK.1 hP 0 (wMd_0 t a (gSt (gSt σ 0 0 0) 9 np wd)) rfl 10 (by decide) (hts (.fieldLink R_Md 28 "FlatBoxesModel" "deeps" "[I") (List.mem_cons_of_mem _ (gIn k_676 (by decide +kernel)))) (fun _ h9 => h9) rfl d_Md_part_97 ?_
                  refine lv_aload_n hx hb d_Md_part_100 rfl (lv_at hl 1 rfl) ?_
                  refine va_get (D := D) (ci := 7) (v := .int ((gSt (gSt σ 0 0 0) 9 np wd) 8 0)) (C := R_Md) (T := F_Md) (N := 34) hx hb hts (fun w h => List.mem_cons_of_mem _ (i_Md w h)) hown hK.1 hP 0 (wMd_0 t a (gSt (gSt σ 0 0 0) 9 np wd)) rfl 8 (by decide) (hts (.fieldLink R_Md 113 "FlatBoxesModel" "parts" "I") (List.mem_cons_of_mem _ (gIn k_674 (by decide +kernel)))) (fun _ h9 => h9) rfl d_Md_part_101 ?_
                  refine lv_topi (fun v_32 e_32 => ?_)
                  obtain rfl : nI np = v_32 := (e_32.trans hN).symm
                  refine lv_iload_n hx hb d_Md_part_104 rfl (lv_at hl 3 rfl) ?_
                  refine g_iast hx hb hK.1 hP hD hS 7 0 (wMd_10 t a (gSt (gSt σ 0 0 0) 9 np wd)) rfl np (rfl) (by omega) (by decide) (w' := wMd t a (gSt (gSt (gSt σ 0 0 0) 9 np wd) 10 np dp)) (sMd_10 t a (gSt (gSt σ 0 0 0) 9 np wd) np dp) d_Md_part_105 (fun H locs hP hD hS => ?_)
                  refine lv_aload_n hx hb d_Md_part_106 rfl (lv_at hl 1 rfl) ?_
                  refine va_get (D := D) (ci := 7) (v := .ref (a 11)) (C := R_Md) (T := F_Md) (N := 34) hx hb hts (fun w h => List.mem_cons_of_mem _ (i_Md w h)) hown hK.1 hP 0 (wMd_0 t a (gSt (gSt (gSt σ 0 0 0) 9 np wd) 10 np dp)) rfl 11 (by decide) (hts (.fieldLink R_Md 31 "FlatBoxesModel" "thicks" "[I") (List.mem_cons_of_mem _ (gIn k_677 (by decide +kernel)))) (fun _ h9 => h9) rfl d_Md_part_107 ?_
                  refine lv_aload_n hx hb d_Md_part_110 rfl (lv_at hl 1 rfl) ?_
                  refine va_get (D := D) (ci := 7) (v := .int ((gSt (gSt (gSt σ 0 0 0) 9 np wd) 10 np dp) 8 0)) (C := R_Md) (T := F_Md) (N := 34) hx hb hts (fun w h => List.mem_cons_of_mem _ (i_Md w h)) hown hK.1 hP 0 (wMd_0 t a (gSt (gSt (gSt σ 0 0 0) 9 np wd) 10 np dp)) rfl 8 (by decide) (hts (.fieldLink R_Md 113 "FlatBoxesModel" "parts" "I") (List.mem_cons_of_mem _ (gIn k_674 (by decide +kernel)))) (fun _ h9 => h9) rfl d_Md_part_111 ?_
                  refine lv_topi (fun v_33 e_33 => ?_)
                  obtain rfl : nI np = v_33 := (e_33.trans hN).symm
                  refine lv_iload_n hx hb d_Md_part_114 rfl (lv_at hl 4 rfl) ?_
                  refine g_iast hx hb hK.1 hP hD hS 8 0 (wMd_11 t a (gSt (gSt (gSt σ 0 0 0) 9 np wd) 10 np dp)) rfl np (rfl) (by omega) (by decide) (w' := wMd t a (gSt (gSt (gSt (gSt σ 0 0 0) 9 np wd) 10 np dp) 11 np ht)) (sMd_11 t a (gSt (gSt (gSt σ 0 0 0) 9 np wd) 10 np dp) np ht) d_Md_part_115 (fun H locs hP hD hS => ?_)
                  refine lv_aload_n hx hb d_Md_part_116 rfl (lv_at hl 1 rfl) ?_
                  refine va_get (D := D) (ci := 7) (v := .ref (a 12)) (C := R_Md) (T := F_Md) (N := 34) hx hb hts (fun w h => List.mem_cons_of_mem _ (i_Md w h)) hown hK.1 hP 0 (wMd_0 t a (gSt (gSt (gSt (gSt σ 0 0 0) 9 np wd) 10 np dp) 11 np ht)) rfl 12 (by decide) (hts (.fieldLink R_Md 34 "FlatBoxesModel" "grams" "[I") (List.mem_cons_of_mem _ (gIn k_678 (by decide +kernel)))) (fun _ h9 => h9) rfl d_Md_part_117 ?_
                  refine lv_aload_n hx hb d_Md_part_120 rfl (lv_at hl 1 rfl) ?_
                  refine va_get (D := D) (ci := 7) (v := .int ((gSt (gSt (gSt (gSt σ 0 0 0) 9 np wd) 10 np dp) 11 np ht) 8 0)) (C := R_Md) (T := F_Md) (N := 34) hx hb hts (fun w h => List.mem_cons_of_mem _ (i_Md w h)) hown hK.1 hP 0 (wMd_0 t a (gSt (gSt (gSt (gSt σ 0 0 0) 9 np wd) 10 np dp) 11 np ht)) rfl 8 (by decide) (hts (.fieldLink R_Md 113 "FlatBoxesModel" "parts" "I") (List.mem_cons_of_mem _ (gIn k_674 (by decide +kernel)))) (fun _ h9 => h9) rfl d_Md_part_121 ?_
                  refine lv_topi (fun v_34 e_34 => ?_)
                  obtain rfl : nI np = v_34 := (e_34.trans hN).symm
                  refine lv_iload hx hb d_Md_part_124 (lv_at hl 5 rfl) ?_
                  refine g_iast hx hb hK.1 hP hD hS 9 0 (wMd_12 t a (gSt (gSt (gSt (gSt σ 0 0 0) 9 np wd) 10 np dp) 11 np ht)) rfl np (rfl) (by omega) (by decide) (w' := wMd t a (gSt (gSt (gSt (gSt (gSt σ 0 0 0) 9 np wd) 10 np dp) 11 np ht) 12 np gr)) (sMd_12 t a (gSt (gSt (gSt (gSt σ 0 0 0) 9 np wd) 10 np dp) 11 np ht) np gr) d_Md_part_126 (fun H locs hP hD hS => ?_)
                  refine lv_aload_n hx hb d_Md_part_127 rfl (lv_at hl 1 rfl) ?_
                  refine va_get (D := D) (ci := 7) (v := .ref (a 13)) (C := R_Md) (T := F_Md) (N := 34) hx hb hts (fun w h => List.mem_cons_of_mem _ (i_Md w h)) hown hK.1 hP 0 (wMd_0 t a (gSt (gSt (gSt (gSt (gSt σ 0 0 0) 9 np wd) 10 np dp) 11 np ht) 12 np gr)) rfl 13 (by decide) (hts (.fieldLink R_Md 37 "FlatBoxesModel" "steps" "[I") (List.mem_cons_of_mem _ (gIn k_679 (by decide +kernel)))) (fun _ h9 => h9) rfl d_Md_part_128 ?_
                  refine lv_aload_n hx hb d_Md_part_131 rfl (lv_at hl 1 rfl) ?_
                  refine va_get (D := D) (ci := 7) (v := .int ((gSt (gSt (gSt (gSt (gSt σ 0 0 0) 9 np wd) 10 np dp) 11 np ht) 12 np gr) 8 0)) (C := R_Md) (T := F_Md) (N := 34) hx hb hts (fun w h => List.mem_cons_of_mem _ (i_Md w h)) hown hK.1 hP 0 (wMd_0 t a (gSt (gSt (gSt (gSt (gSt σ 0 0 0) 9 np wd) 10 np dp) 11 np ht) 12 np gr)) rfl 8 (by decide) (hts (.fieldLink R_Md 113 "FlatBoxesModel" "parts" "I") (List.mem_cons_of_mem _ (gIn k_674 (by decide +kernel)))) (fun _ h9 => h9) rfl d_Md_part_132 ?_
                  refine lv_topi (fun v_35 e_35 => ?_)
                  obtain rfl : nI np = v_35 := (e_35.trans hN).symm
                  refine lv_iload hx hb d_Md_part_135 (lv_at hl 6 rfl) ?_
                  refine g_iast hx hb hK.1 hP hD hS 10 0 (wMd_13 t a (gSt (gSt (gSt (gSt (gSt σ 0 0 0) 9 np wd) 10 np dp) 11 np ht) 12 np gr)) rfl np (rfl) (by omega) (by decide) (w' := wMd t a (gSt (gSt (gSt (gSt (gSt (gSt σ 0 0 0) 9 np wd) 10 np dp) 11 np ht) 12 np gr) 13 np sp)) (sMd_13 t a (gSt (gSt (gSt (gSt (gSt σ 0 0 0) 9 np wd) 10 np dp) 11 np ht) 12 np gr) np sp) d_Md_part_137 (fun H locs hP hD hS => ?_)
                  refine lv_aload_n hx hb d_Md_part_138 rfl (lv_at hl 1 rfl) ?_
                  refine va_get (D := D) (ci := 7) (v := .ref (a 14)) (C := R_Md) (T := F_Md) (N := 34) hx hb hts (fun w h => List.mem_cons_of_mem _ (i_Md w h)) hown hK.1 hP 0 (wMd_0 t a (gSt (gSt (gSt (gSt (gSt (gSt σ 0 0 0) 9 np wd) 10 np dp) 11 np ht) 12 np gr) 13 np sp)) rfl 14 (by decide) (hts (.fieldLink R_Md 40 "FlatBoxesModel" "fragiles" "[Z") (List.mem_cons_of_mem _ (gIn k_680 (by decide +kernel)))) (fun _ h9 => h9) rfl d_Md_part_139 ?_
                  refine lv_aload_n hx hb d_Md_part_142 rfl (lv_at hl 1 rfl) ?_
                  refine va_get (D := D) (ci := 7) (v := .int ((gSt (gSt (gSt (gSt (gSt (gSt σ 0 0 0) 9 np wd) 10 np dp) 11 np ht) 12 np gr) 13 np sp) 8 0)) (C := R_Md) (T := F_Md) (N := 34) hx hb hts (fun w h => List.mem_cons_of_mem _ (i_Md w h)) hown hK.1 hP 0 (wMd_0 t a (gSt (gSt (gSt (gSt (gSt (gSt σ 0 0 0) 9 np wd) 10 np dp) 11 np ht) 12 np gr) 13 np sp)) rfl 8 (by decide) (hts (.fieldLink R_Md 113 "FlatBoxesModel" "parts" "I") (List.mem_cons_of_mem _ (gIn k_674 (by decide +kernel)))) (fun _ h9 => h9) rfl d_Md_part_143 ?_
                  refine lv_topi (fun v_36 e_36 => ?_)
                  obtain rfl : nI np = v_36 := (e_36.trans hN).symm
                  refine lv_iconst (v := 0) hx hb d_Md_part_146 (by decide) ?_
                  refine g_zast hx hb hK.1 hP hD hS 11 1 (wMd_14 t a (gSt (gSt (gSt (gSt (gSt (gSt σ 0 0 0) 9 np wd) 10 np dp) 11 np ht) 12 np gr) 13 np sp)) rfl (Or.inl rfl) np (rfl) (by omega) (by decide) (w' := wMd t a (gSt (gSt (gSt (gSt (gSt (gSt (gSt σ 0 0 0) 9 np wd) 10 np dp) 11 np ht) 12 np gr) 13 np sp) 14 np 0)) (sMd_14 t a (gSt (gSt (gSt (gSt (gSt (gSt σ 0 0 0) 9 np wd) 10 np dp) 11 np ht) 12 np gr) 13 np sp) np 0) d_Md_part_147 (fun H locs hP hD hS => ?_)
                  refine lv_aload_n hx hb d_Md_part_148 rfl (lv_at hl 1 rfl) ?_
                  refine lv_dup hx hb d_Md_part_149 rfl ?_
                  refine va_get (D := D) (ci := 7) (v := .int ((gSt (gSt (gSt (gSt (gSt (gSt (gSt σ 0 0 0) 9 np wd) 10 np dp) 11 np ht) 12 np gr) 13 np sp) 14 np 0) 8 0)) (C := R_Md) (T := F_Md) (N := 34) hx hb hts (fun w h => List.mem_cons_of_mem _ (i_Md w h)) hown hK.1 hP 0 (wMd_0 t a (gSt (gSt (gSt (gSt (gSt (gSt (gSt σ 0 0 0) 9 np wd) 10 np dp) 11 np ht) 12 np gr) 13 np sp) 14 np 0)) rfl 8 (by decide) (hts (.fieldLink R_Md 113 "FlatBoxesModel" "parts" "I") (List.mem_cons_of_mem _ (gIn k_674 (by decide +kernel)))) (fun _ h9 => h9) rfl d_Md_part_150 ?_
                  refine lv_topi (fun v_37 e_37 => ?_)
                  obtain rfl : nI np = v_37 := (e_37.trans hN).symm
                  refine lv_iconst (v := 1) hx hb d_Md_part_153 (by decide) ?_
                  refine lv_iadd hx hb d_Md_part_154 ?_
                  refine lv_topi (fun v_38 e_38 => ?_)
                  obtain rfl : nI (np + 1) = v_38 := (e_38.trans (nI_1 _)).symm
                  refine va_put (D := D) (ci := 7) (v := .int (nI (np + 1))) (ty := .int) (C := R_Md) (T := F_Md) (N := 34) hx hb hts (fun w h => List.mem_cons_of_mem _ (i_Md w h)) t_Md t_Md_ok n_Md hown hK.1 hP hD hS 0 (wMd_0 t a (gSt (gSt (gSt (gSt (gSt (gSt (gSt σ 0 0 0) 9 np wd) 10 np dp) 11 np ht) 12 np gr) 13 np sp) 14 np 0)) rfl 8 (by decide) (hts (.fieldLink R_Md 113 "FlatBoxesModel" "parts" "I") (List.mem_cons_of_mem _ (gIn k_674 (by decide +kernel)))) (fun _ h9 => h9) rfl (by decide +kernel) rfl rfl (Nat.le_of_ble_eq_true rfl) d_Md_part_155 (fun H locs hP hD hS => ?_)
                  have hP : va_P D gCl (wMd t a (gSt (gSt (gSt (gSt (gSt (gSt (gSt (gSt σ 0 0 0) 9 np wd) 10 np dp) 11 np ht) 12 np gr) 13 np sp) 14 np 0) 8 0 (nI (np + 1)))) H := hP
                  have hD : va_D A (wMd t a (gSt (gSt (gSt (gSt (gSt (gSt (gSt (gSt σ 0 0 0) 9 np wd) 10 np dp) 11 np ht) 12 np gr) 13 np sp) 14 np 0) 8 0 (nI (np + 1)))) := hD
                  refine lv_aload_n hx hb d_Md_part_158 rfl (lv_at hl 1 rfl) ?_
                  refine lv_iconst (v := 0) hx hb d_Md_part_159 (by decide) ?_
                  refine va_put (D := D) (ci := 7) (v := .int 0) (ty := .boolean) (C := R_Md) (T := F_Md) (N := 34) hx hb hts (fun w h => List.mem_cons_of_mem _ (i_Md w h)) t_Md t_Md_ok n_Md hown hK.1 hP hD hS 0 (wMd_0 t a (gSt (gSt (gSt (gSt (gSt (gSt (gSt (gSt σ 0 0 0) 9 np wd) 10 np dp) 11 np ht) 12 np gr) 13 np sp) 14 np 0) 8 0 (nI (np + 1)))) rfl 24 (by decide) (hts (.fieldLink R_Md 108 "FlatBoxesModel" "hasShares" "Z") (List.mem_cons_of_mem _ (gIn k_690 (by decide +kernel)))) (fun _ h9 => h9) rfl (by decide +kernel) rfl rfl (Nat.le_of_ble_eq_true rfl) d_Md_part_160 (fun H locs hP hD hS => ?_)
                  have hP : va_P D gCl (wMd t a (gSt (gSt (gSt (gSt (gSt (gSt (gSt (gSt (gSt σ 0 0 0) 9 np wd) 10 np dp) 11 np ht) 12 np gr) 13 np sp) 14 np 0) 8 0 (nI (np + 1))) 24 0 0)) H := hP
                  have hD : va_D A (wMd t a (gSt (gSt (gSt (gSt (gSt (gSt (gSt (gSt (gSt σ 0 0 0) 9 np wd) 10 np dp) 11 np ht) 12 np gr) 13 np sp) 14 np 0) 8 0 (nI (np + 1))) 24 0 0)) := hD
                  refine lv_aload_n hx hb d_Md_part_163 rfl (lv_at hl 1 rfl) ?_
                  refine va_get (D := D) (ci := 7) (v := .int ((gSt (gSt (gSt (gSt (gSt (gSt (gSt (gSt (gSt σ 0 0 0) 9 np wd) 10 np dp) 11 np ht) 12 np gr) 13 np sp) 14 np 0) 8 0 (nI (np + 1))) 24 0 0) 8 0)) (C := R_Md) (T := F_Md) (N := 34) hx hb hts (fun w h => List.mem_cons_of_mem _ (i_Md w h)) hown hK.1 hP 0 (wMd_0 t a (gSt (gSt (gSt (gSt (gSt (gSt (gSt (gSt (gSt σ 0 0 0) 9 np wd) 10 np dp) 11 np ht) 12 np gr) 13 np sp) 14 np 0) 8 0 (nI (np + 1))) 24 0 0)) rfl 8 (by decide) (hts (.fieldLink R_Md 113 "FlatBoxesModel" "parts" "I") (List.mem_cons_of_mem _ (gIn k_674 (by decide +kernel)))) (fun _ h9 => h9) rfl d_Md_part_164 ?_
                  refine lv_topi (fun v_39 e_39 => ?_)
                  obtain rfl : nI (np + 1) = v_39 := (e_39.trans (rfl)).symm
                  refine lv_iconst (v := 1) hx hb d_Md_part_167 (by decide) ?_
                  refine lv_isub hx hb d_Md_part_168 ?_
                  refine lv_topi (fun v_40 e_40 => ?_)
                  obtain rfl : nI np = v_40 := (e_40.trans (nI_pred np)).symm
                  exact W.iret (v := nI np) hx hb hr (fun U hU hW => ⟨⟨nI np, gSt (gSt (gSt (gSt (gSt (gSt (gSt (gSt (gSt σ 0 0 0) 9 np wd) 10 np dp) 11 np ht) 12 np gr) 13 np sp) 14 np 0) 8 0 (nI (np + 1))) 24 0 0, rfl, by exact ⟨by simp [mPartR, mPartC, mAll, c_2, c_7, c_12, c_17, c_22, c_26, c_28, h_28, c_30], by simp [mPartU, mPartC, mAll, c_2, c_7, c_12, c_17, c_22, c_26, c_28, h_28, c_30]⟩, by rw [hU]; exact hP, hD⟩, hS.F hU⟩) hS.2.2 d_Md_part_169
                · 
                  exact absurd c_30 (by decide)
              · 
                have h_28 : np = 8 := (nI_eq (a := np) (b := 8) (by omega) (by omega)).mp c_28
                refine lv_iconst (v := 2) hx hb d_Md_part_69 (by decide) ?_
                refine lv_goto (tgt := 74) hx hb d_Md_part_70 (by decide) ?_
                refine va_put (D := D) (ci := 7) (v := .int 2) (ty := .int) (C := R_Md) (T := F_Md) (N := 34) hx hb hts (fun w h => List.mem_cons_of_mem _ (i_Md w h)) t_Md t_Md_ok n_Md hown hK.1 hP hD hS 0 (wMd_0 t a σ) rfl 0 (by decide) (hts (.fieldLink R_Md 93 "FlatBoxesModel" "code" "I") (List.mem_cons_of_mem _ (gIn k_666 (by decide +kernel)))) (fun _ h9 => h9) rfl (by decide +kernel) rfl rfl (Nat.le_of_ble_eq_true rfl) d_Md_part_74 (fun H locs hP hD hS => ?_)
                have hP : va_P D gCl (wMd t a (gSt σ 0 0 2)) H := hP
                have hD : va_D A (wMd t a (gSt σ 0 0 2)) := hD
                refine lv_aload_n hx hb d_Md_part_77 rfl (lv_at hl 1 rfl) ?_
                refine va_get (D := D) (ci := 7) (v := .int ((gSt σ 0 0 2) 0 0)) (C := R_Md) (T := F_Md) (N := 34) hx hb hts (fun w h => List.mem_cons_of_mem _ (i_Md w h)) hown hK.1 hP 0 (wMd_0 t a (gSt σ 0 0 2)) rfl 0 (by decide) (hts (.fieldLink R_Md 93 "FlatBoxesModel" "code" "I") (List.mem_cons_of_mem _ (gIn k_666 (by decide +kernel)))) (fun _ h9 => h9) rfl d_Md_part_78 ?_
                refine lv_topi (fun v_41 e_41 => ?_)
                obtain rfl : 2 = v_41 := (e_41.trans (rfl)).symm
                refine lv_if_le (tgt := 86) hx hb d_Md_part_81 (by decide) (fun c_42 => ?_) (fun c_42 => ?_)
                · 
                  exact absurd c_42 (by decide)
                · 
                  refine lv_iconst (v := 0) hx hb d_Md_part_84 (by decide) ?_
                  exact W.iret (v := 0) hx hb hr (fun U hU hW => ⟨⟨0, gSt σ 0 0 2, rfl, by exact ⟨by simp [mPartR, mPartC, mAll, c_2, c_7, c_12, c_17, c_22, c_26, c_28, h_28, c_42], by simp [mPartU, mPartC, mAll, c_2, c_7, c_12, c_17, c_22, c_26, c_28, h_28, c_42]⟩, by rw [hU]; exact hP, hD⟩, hS.F hU⟩) hS.2.2 d_Md_part_85
            · 
              exact absurd c_26 (by decide)
set_option maxHeartbeats 4000000 in
set_option maxRecDepth 100000 in
theorem c_Md_fragile (l : Launch) (D : va_G) (t : Nat → ClassId) (a : Nat → Nat) (σ : Nat → Nat → Int32) (pq on : Int32) (np : Nat) (hN : σ 8 0 = nI np) (hN8 : np ≤ 8) (hon : on = 0 ∨ on = 1) : gMi l D t y_Md_fragile b_Md_fragile 4 (some .boolean) 1 [.ref (a 0), .int pq, .int on] (wMd t a σ) (wMd t a) (fun r u => r = mFragR σ np pq on ∧ u = mFragU σ np pq on) := by
  intro A
  refine Met.ofW (cc := b_Md_fragile) (maxL := 4) (ret := (some .boolean)) (by decide) rfl ?_
  intro p e s m args below meth c s₁ B hml hv
  obtain ⟨rfl, hK, hP, hD⟩ := hv
  have hx := B.exec
  have hb := B.bytes
  have hr := B.returns
  have hts := atoms_spec (ws := .code y_Md_fragile b_Md_fragile 4 (some .boolean) :: gBig) B.pre
  have hown : s.vm.findClass R_Md = some m.cls := findClass_of_methodNamed B.named
  have hlocks := B.notSynchronized
  have hS : va_S A s.heap s.heap [] := va_S.rf
  have hl := lv_entry ([.ref (a 0), .int pq, .int on]) (n := 4) (Nat.le_of_ble_eq_true rfl)
  rw [lg_entry_eq]
  generalize (lg_sl ([.ref (a 0), .int pq, .int on]) ++ List.replicate (4 - (lg_sl ([.ref (a 0), .int pq, .int on])).length) Slot.unset).toArray = ls at hl ⊢
  have hl : lv_has ls 4 [(0, .ref (a 0)), (1, .int pq), (2, .int on)] := hl
  show gGo l p e s m below meth c D t A 1 [.ref (a 0), .int pq, .int on] (wMd t a) (fun r u => r = mFragR σ np pq on ∧ u = mFragU σ np pq on) s.heap [] (F0 m 0 ls [])
  refine lv_aload_n hx hb d_Md_fragile_0 rfl (lv_at hl 0 rfl) ?_
  refine lv_iload_n hx hb d_Md_fragile_1 rfl (lv_at hl 1 rfl) ?_
  refine lv_iconst (v := 0) hx hb d_Md_fragile_2 (by decide) ?_
  refine lv_aload_n hx hb d_Md_fragile_3 rfl (lv_at hl 0 rfl) ?_
  refine va_get (D := D) (ci := 7) (v := .int (σ 8 0)) (C := R_Md) (T := F_Md) (N := 34) hx hb hts (fun w h => List.mem_cons_of_mem _ (i_Md w h)) hown hK.1 hP 0 (wMd_0 t a σ) rfl 8 (by decide) (hts (.fieldLink R_Md 113 "FlatBoxesModel" "parts" "I") (List.mem_cons_of_mem _ (gIn k_674 (by decide +kernel)))) (fun _ h9 => h9) rfl d_Md_fragile_4 ?_
  refine lv_topi (fun v_1 e_1 => ?_)
  obtain rfl : nI np = v_1 := (e_1.trans hN).symm
  refine lv_iconst (v := 1) hx hb d_Md_fragile_7 (by decide) ?_
  refine lv_isub hx hb d_Md_fragile_8 ?_
  refine g_si (k := 3) (As := [.int pq, .int 0, .int ((nI np) - 1)]) (rest := [.ref (a 0)]) (own := R_Md) (index := 96) ⟨hx, hb, hml, hown, hts⟩ (c_Md_in l D t a σ pq 0 ((nI np) - 1)) (gg_Md_96 _) (by decide +kernel) ⟨Nat.le_of_ble_eq_true rfl, Nat.le_of_ble_eq_true rfl⟩ rfl hK hP hD hS hl.1 rfl (Nat.le_of_ble_eq_true rfl) ⟨Nat.zero_le _, Nat.zero_le _⟩ d_Md_fragile_9 (fun r_2 u_2 H locs q_2 hP hD hS => ?_)
  obtain ⟨rfl, hu_2⟩ := q_2
  rw [hu_2] at hP hD
  refine lv_if_eq (tgt := 19) hx hb d_Md_fragile_12 (by decide) (fun c_3 => ?_) (fun c_3 => ?_)
  · 
    refine lv_iconst (v := 1) hx hb d_Md_fragile_19 (by decide) ?_
    refine va_put (D := D) (ci := 7) (v := .int 1) (ty := .int) (C := R_Md) (T := F_Md) (N := 34) hx hb hts (fun w h => List.mem_cons_of_mem _ (i_Md w h)) t_Md t_Md_ok n_Md hown hK.1 hP hD hS 0 (wMd_0 t a σ) rfl 0 (by decide) (hts (.fieldLink R_Md 93 "FlatBoxesModel" "code" "I") (List.mem_cons_of_mem _ (gIn k_666 (by decide +kernel)))) (fun _ h9 => h9) rfl (by decide +kernel) rfl rfl (Nat.le_of_ble_eq_true rfl) d_Md_fragile_20 (fun H locs hP hD hS => ?_)
    have hP : va_P D gCl (wMd t a (gSt σ 0 0 1)) H := hP
    have hD : va_D A (wMd t a (gSt σ 0 0 1)) := hD
    refine lv_aload_n hx hb d_Md_fragile_23 rfl (lv_at hl 0 rfl) ?_
    refine va_get (D := D) (ci := 7) (v := .int ((gSt σ 0 0 1) 0 0)) (C := R_Md) (T := F_Md) (N := 34) hx hb hts (fun w h => List.mem_cons_of_mem _ (i_Md w h)) hown hK.1 hP 0 (wMd_0 t a (gSt σ 0 0 1)) rfl 0 (by decide) (hts (.fieldLink R_Md 93 "FlatBoxesModel" "code" "I") (List.mem_cons_of_mem _ (gIn k_666 (by decide +kernel)))) (fun _ h9 => h9) rfl d_Md_fragile_24 ?_
    refine lv_topi (fun v_4 e_4 => ?_)
    obtain rfl : 1 = v_4 := (e_4.trans (rfl)).symm
    refine lv_if_le (tgt := 32) hx hb d_Md_fragile_27 (by decide) (fun c_5 => ?_) (fun c_5 => ?_)
    · 
      exact absurd c_5 (by decide)
    · 
      refine lv_iconst (v := 0) hx hb d_Md_fragile_30 (by decide) ?_
      exact W.zret (v := 0) (ty := .boolean) hx hb hr (rfl) (fun U hU hW => ⟨⟨0, gSt σ 0 0 1, rfl, by exact ⟨by simp [mFragR, mFragC, mFragN, c_3, c_5], by simp [mFragU, mFragC, mFragN, c_3, c_5]⟩, by rw [hU]; exact hP, hD⟩, hS.F hU⟩) hS.2.2 d_Md_fragile_31
  · 
    refine lv_iconst (v := 0) hx hb d_Md_fragile_15 (by decide) ?_
    refine lv_goto (tgt := 20) hx hb d_Md_fragile_16 (by decide) ?_
    refine va_put (D := D) (ci := 7) (v := .int 0) (ty := .int) (C := R_Md) (T := F_Md) (N := 34) hx hb hts (fun w h => List.mem_cons_of_mem _ (i_Md w h)) t_Md t_Md_ok n_Md hown hK.1 hP hD hS 0 (wMd_0 t a σ) rfl 0 (by decide) (hts (.fieldLink R_Md 93 "FlatBoxesModel" "code" "I") (List.mem_cons_of_mem _ (gIn k_666 (by decide +kernel)))) (fun _ h9 => h9) rfl (by decide +kernel) rfl rfl (Nat.le_of_ble_eq_true rfl) d_Md_fragile_20 (fun H locs hP hD hS => ?_)
    have hP : va_P D gCl (wMd t a (gSt σ 0 0 0)) H := hP
    have hD : va_D A (wMd t a (gSt σ 0 0 0)) := hD
    refine lv_aload_n hx hb d_Md_fragile_23 rfl (lv_at hl 0 rfl) ?_
    refine va_get (D := D) (ci := 7) (v := .int ((gSt σ 0 0 0) 0 0)) (C := R_Md) (T := F_Md) (N := 34) hx hb hts (fun w h => List.mem_cons_of_mem _ (i_Md w h)) hown hK.1 hP 0 (wMd_0 t a (gSt σ 0 0 0)) rfl 0 (by decide) (hts (.fieldLink R_Md 93 "FlatBoxesModel" "code" "I") (List.mem_cons_of_mem _ (gIn k_666 (by decide +kernel)))) (fun _ h9 => h9) rfl d_Md_fragile_24 ?_
    refine lv_topi (fun v_6 e_6 => ?_)
    obtain rfl : 0 = v_6 := (e_6.trans (rfl)).symm
    refine lv_if_le (tgt := 32) hx hb d_Md_fragile_27 (by decide) (fun c_7 => ?_) (fun c_7 => ?_)
    · 
      obtain ⟨q, hq, rfl⟩ := mIn_nat (n := np) (by omega) c_3
      refine lv_aload_n hx hb d_Md_fragile_32 rfl (lv_at hl 0 rfl) ?_
      refine va_get (D := D) (ci := 7) (v := .ref (a 14)) (C := R_Md) (T := F_Md) (N := 34) hx hb hts (fun w h => List.mem_cons_of_mem _ (i_Md w h)) hown hK.1 hP 0 (wMd_0 t a (gSt σ 0 0 0)) rfl 14 (by decide) (hts (.fieldLink R_Md 40 "FlatBoxesModel" "fragiles" "[Z") (List.mem_cons_of_mem _ (gIn k_680 (by decide +kernel)))) (fun _ h9 => h9) rfl d_Md_fragile_33 ?_
      refine lv_iload_n hx hb d_Md_fragile_36 rfl (lv_at hl 1 rfl) ?_
      refine g_zald hx hb hK.1 hP 11 1 (wMd_14 t a (gSt σ 0 0 0)) rfl q (rfl) (by omega) (by decide) d_Md_fragile_37 ?_
      refine lv_topi (fun v_8 e_8 => ?_)
      obtain rfl : σ 14 q = v_8 := (e_8.trans (rfl)).symm
      refine lv_iload_n hx hb d_Md_fragile_38 rfl (lv_at hl 2 rfl) ?_
      refine lv_icmp_eq (tgt := 46) hx hb d_Md_fragile_39 (by decide) (fun c_9 => ?_) (fun c_9 => ?_)
      · 
        refine lv_iconst (v := 0) hx hb d_Md_fragile_46 (by decide) ?_
        refine lv_istore_n (lv' := [(3, .int 0), (0, .ref (a 0)), (1, .int (nI q)), (2, .int on)]) hx hb d_Md_fragile_47 rfl hl (by decide) rfl (fun ls hl => ?_)
        refine lv_aload_n hx hb d_Md_fragile_48 rfl (lv_at hl 1 rfl) ?_
        refine va_get (D := D) (ci := 7) (v := .ref (a 14)) (C := R_Md) (T := F_Md) (N := 34) hx hb hts (fun w h => List.mem_cons_of_mem _ (i_Md w h)) hown hK.1 hP 0 (wMd_0 t a (gSt σ 0 0 0)) rfl 14 (by decide) (hts (.fieldLink R_Md 40 "FlatBoxesModel" "fragiles" "[Z") (List.mem_cons_of_mem _ (gIn k_680 (by decide +kernel)))) (fun _ h9 => h9) rfl d_Md_fragile_49 ?_
        refine lv_iload_n hx hb d_Md_fragile_52 rfl (lv_at hl 2 rfl) ?_
        refine lv_iload_n hx hb d_Md_fragile_53 rfl (lv_at hl 3 rfl) ?_
        refine g_zast hx hb hK.1 hP hD hS 11 1 (wMd_14 t a (gSt σ 0 0 0)) rfl (hon) q (rfl) (by omega) (by decide) (w' := wMd t a (gSt (gSt σ 0 0 0) 14 q on)) (sMd_14 t a (gSt σ 0 0 0) q on) d_Md_fragile_54 (fun H locs hP hD hS => ?_)
        refine lv_aload_n hx hb d_Md_fragile_55 rfl (lv_at hl 1 rfl) ?_
        refine lv_aload_n hx hb d_Md_fragile_56 rfl (lv_at hl 1 rfl) ?_
        refine va_get (D := D) (ci := 7) (v := .int ((gSt (gSt σ 0 0 0) 14 q on) 24 0)) (C := R_Md) (T := F_Md) (N := 34) hx hb hts (fun w h => List.mem_cons_of_mem _ (i_Md w h)) hown hK.1 hP 0 (wMd_0 t a (gSt (gSt σ 0 0 0) 14 q on)) rfl 24 (by decide) (hts (.fieldLink R_Md 108 "FlatBoxesModel" "hasShares" "Z") (List.mem_cons_of_mem _ (gIn k_690 (by decide +kernel)))) (fun _ h9 => h9) rfl d_Md_fragile_57 ?_
        refine lv_topi (fun v_10 e_10 => ?_)
        obtain rfl : σ 24 0 = v_10 := (e_10.trans (rfl)).symm
        refine lv_if_eq (tgt := 71) hx hb d_Md_fragile_60 (by decide) (fun c_11 => ?_) (fun c_11 => ?_)
        · 
          refine lv_iconst (v := 0) hx hb d_Md_fragile_71 (by decide) ?_
          refine va_put (D := D) (ci := 7) (v := .int 0) (ty := .boolean) (C := R_Md) (T := F_Md) (N := 34) hx hb hts (fun w h => List.mem_cons_of_mem _ (i_Md w h)) t_Md t_Md_ok n_Md hown hK.1 hP hD hS 0 (wMd_0 t a (gSt (gSt σ 0 0 0) 14 q on)) rfl 24 (by decide) (hts (.fieldLink R_Md 108 "FlatBoxesModel" "hasShares" "Z") (List.mem_cons_of_mem _ (gIn k_690 (by decide +kernel)))) (fun _ h9 => h9) rfl (by decide +kernel) rfl rfl (Nat.le_of_ble_eq_true rfl) d_Md_fragile_72 (fun H locs hP hD hS => ?_)
          have hP : va_P D gCl (wMd t a (gSt (gSt (gSt σ 0 0 0) 14 q on) 24 0 0)) H := hP
          have hD : va_D A (wMd t a (gSt (gSt (gSt σ 0 0 0) 14 q on) 24 0 0)) := hD
          refine lv_iload_n hx hb d_Md_fragile_75 rfl (lv_at hl 0 rfl) ?_
          exact W.zret (v := 0) (ty := .boolean) hx hb hr (rfl) (fun U hU hW => ⟨⟨0, gSt (gSt (gSt σ 0 0 0) 14 q on) 24 0 0, rfl, by exact ⟨by simp [mFragR, mFragC, mFragN, nI_clamp (show q < 2 ^ 31 by omega), c_3, c_7, c_9, c_11], by simp [mFragU, mFragC, mFragN, nI_clamp (show q < 2 ^ 31 by omega), c_3, c_7, c_9, c_11]⟩, by rw [hU]; exact hP, hD⟩, hS.F hU⟩) hS.2.2 d_Md_fragile_76
        · 
          refine lv_iload_n hx hb d_Md_fragile_63 rfl (lv_at hl 0 rfl) ?_
          refine lv_if_ne (tgt := 71) hx hb d_Md_fragile_64 (by decide) (fun c_12 => ?_) (fun c_12 => ?_)
          · 
            exact absurd c_12 (by decide)
          · 
            refine lv_iconst (v := 1) hx hb d_Md_fragile_67 (by decide) ?_
            refine lv_goto (tgt := 72) hx hb d_Md_fragile_68 (by decide) ?_
            refine va_put (D := D) (ci := 7) (v := .int 1) (ty := .boolean) (C := R_Md) (T := F_Md) (N := 34) hx hb hts (fun w h => List.mem_cons_of_mem _ (i_Md w h)) t_Md t_Md_ok n_Md hown hK.1 hP hD hS 0 (wMd_0 t a (gSt (gSt σ 0 0 0) 14 q on)) rfl 24 (by decide) (hts (.fieldLink R_Md 108 "FlatBoxesModel" "hasShares" "Z") (List.mem_cons_of_mem _ (gIn k_690 (by decide +kernel)))) (fun _ h9 => h9) rfl (by decide +kernel) rfl rfl (Nat.le_of_ble_eq_true rfl) d_Md_fragile_72 (fun H locs hP hD hS => ?_)
            have hP : va_P D gCl (wMd t a (gSt (gSt (gSt σ 0 0 0) 14 q on) 24 0 1)) H := hP
            have hD : va_D A (wMd t a (gSt (gSt (gSt σ 0 0 0) 14 q on) 24 0 1)) := hD
            refine lv_iload_n hx hb d_Md_fragile_75 rfl (lv_at hl 0 rfl) ?_
            exact W.zret (v := 0) (ty := .boolean) hx hb hr (rfl) (fun U hU hW => ⟨⟨0, gSt (gSt (gSt σ 0 0 0) 14 q on) 24 0 1, rfl, by exact ⟨by simp [mFragR, mFragC, mFragN, nI_clamp (show q < 2 ^ 31 by omega), c_3, c_7, c_9, c_11, c_12], by simp [mFragU, mFragC, mFragN, nI_clamp (show q < 2 ^ 31 by omega), c_3, c_7, c_9, c_11, c_12]⟩, by rw [hU]; exact hP, hD⟩, hS.F hU⟩) hS.2.2 d_Md_fragile_76
      · 
        refine lv_iconst (v := 1) hx hb d_Md_fragile_42 (by decide) ?_
        refine lv_goto (tgt := 47) hx hb d_Md_fragile_43 (by decide) ?_
        refine lv_istore_n (lv' := [(3, .int 1), (0, .ref (a 0)), (1, .int (nI q)), (2, .int on)]) hx hb d_Md_fragile_47 rfl hl (by decide) rfl (fun ls hl => ?_)
        refine lv_aload_n hx hb d_Md_fragile_48 rfl (lv_at hl 1 rfl) ?_
        refine va_get (D := D) (ci := 7) (v := .ref (a 14)) (C := R_Md) (T := F_Md) (N := 34) hx hb hts (fun w h => List.mem_cons_of_mem _ (i_Md w h)) hown hK.1 hP 0 (wMd_0 t a (gSt σ 0 0 0)) rfl 14 (by decide) (hts (.fieldLink R_Md 40 "FlatBoxesModel" "fragiles" "[Z") (List.mem_cons_of_mem _ (gIn k_680 (by decide +kernel)))) (fun _ h9 => h9) rfl d_Md_fragile_49 ?_
        refine lv_iload_n hx hb d_Md_fragile_52 rfl (lv_at hl 2 rfl) ?_
        refine lv_iload_n hx hb d_Md_fragile_53 rfl (lv_at hl 3 rfl) ?_
        refine g_zast hx hb hK.1 hP hD hS 11 1 (wMd_14 t a (gSt σ 0 0 0)) rfl (hon) q (rfl) (by omega) (by decide) (w' := wMd t a (gSt (gSt σ 0 0 0) 14 q on)) (sMd_14 t a (gSt σ 0 0 0) q on) d_Md_fragile_54 (fun H locs hP hD hS => ?_)
        refine lv_aload_n hx hb d_Md_fragile_55 rfl (lv_at hl 1 rfl) ?_
        refine lv_aload_n hx hb d_Md_fragile_56 rfl (lv_at hl 1 rfl) ?_
        refine va_get (D := D) (ci := 7) (v := .int ((gSt (gSt σ 0 0 0) 14 q on) 24 0)) (C := R_Md) (T := F_Md) (N := 34) hx hb hts (fun w h => List.mem_cons_of_mem _ (i_Md w h)) hown hK.1 hP 0 (wMd_0 t a (gSt (gSt σ 0 0 0) 14 q on)) rfl 24 (by decide) (hts (.fieldLink R_Md 108 "FlatBoxesModel" "hasShares" "Z") (List.mem_cons_of_mem _ (gIn k_690 (by decide +kernel)))) (fun _ h9 => h9) rfl d_Md_fragile_57 ?_
        refine lv_topi (fun v_13 e_13 => ?_)
        obtain rfl : σ 24 0 = v_13 := (e_13.trans (rfl)).symm
        refine lv_if_eq (tgt := 71) hx hb d_Md_fragile_60 (by decide) (fun c_14 => ?_) (fun c_14 => ?_)
        · 
          refine lv_iconst (v := 0) hx hb d_Md_fragile_71 (by decide) ?_
          refine va_put (D := D) (ci := 7) (v := .int 0) (ty := .boolean) (C := R_Md) (T := F_Md) (N := 34) hx hb hts (fun w h => List.mem_cons_of_mem _ (i_Md w h)) t_Md t_Md_ok n_Md hown hK.1 hP hD hS 0 (wMd_0 t a (gSt (gSt σ 0 0 0) 14 q on)) rfl 24 (by decide) (hts (.fieldLink R_Md 108 "FlatBoxesModel" "hasShares" "Z") (List.mem_cons_of_mem _ (gIn k_690 (by decide +kernel)))) (fun _ h9 => h9) rfl (by decide +kernel) rfl rfl (Nat.le_of_ble_eq_true rfl) d_Md_fragile_72 (fun H locs hP hD hS => ?_)
          have hP : va_P D gCl (wMd t a (gSt (gSt (gSt σ 0 0 0) 14 q on) 24 0 0)) H := hP
          have hD : va_D A (wMd t a (gSt (gSt (gSt σ 0 0 0) 14 q on) 24 0 0)) := hD
          refine lv_iload_n hx hb d_Md_fragile_75 rfl (lv_at hl 0 rfl) ?_
          exact W.zret (v := 1) (ty := .boolean) hx hb hr (rfl) (fun U hU hW => ⟨⟨1, gSt (gSt (gSt σ 0 0 0) 14 q on) 24 0 0, rfl, by exact ⟨by simp [mFragR, mFragC, mFragN, nI_clamp (show q < 2 ^ 31 by omega), c_3, c_7, c_9, c_14], by simp [mFragU, mFragC, mFragN, nI_clamp (show q < 2 ^ 31 by omega), c_3, c_7, c_9, c_14]⟩, by rw [hU]; exact hP, hD⟩, hS.F hU⟩) hS.2.2 d_Md_fragile_76
        · 
          refine lv_iload_n hx hb d_Md_fragile_63 rfl (lv_at hl 0 rfl) ?_
          refine lv_if_ne (tgt := 71) hx hb d_Md_fragile_64 (by decide) (fun c_15 => ?_) (fun c_15 => ?_)
          · 
            refine lv_iconst (v := 0) hx hb d_Md_fragile_71 (by decide) ?_
            refine va_put (D := D) (ci := 7) (v := .int 0) (ty := .boolean) (C := R_Md) (T := F_Md) (N := 34) hx hb hts (fun w h => List.mem_cons_of_mem _ (i_Md w h)) t_Md t_Md_ok n_Md hown hK.1 hP hD hS 0 (wMd_0 t a (gSt (gSt σ 0 0 0) 14 q on)) rfl 24 (by decide) (hts (.fieldLink R_Md 108 "FlatBoxesModel" "hasShares" "Z") (List.mem_cons_of_mem _ (gIn k_690 (by decide +kernel)))) (fun _ h9 => h9) rfl (by decide +kernel) rfl rfl (Nat.le_of_ble_eq_true rfl) d_Md_fragile_72 (fun H locs hP hD hS => ?_)
            have hP : va_P D gCl (wMd t a (gSt (gSt (gSt σ 0 0 0) 14 q on) 24 0 0)) H := hP
            have hD : va_D A (wMd t a (gSt (gSt (gSt σ 0 0 0) 14 q on) 24 0 0)) := hD
            refine lv_iload_n hx hb d_Md_fragile_75 rfl (lv_at hl 0 rfl) ?_
            exact W.zret (v := 1) (ty := .boolean) hx hb hr (rfl) (fun U hU hW => ⟨⟨1, gSt (gSt (gSt σ 0 0 0) 14 q on) 24 0 0, rfl, by exact ⟨by simp [mFragR, mFragC, mFragN, nI_clamp (show q < 2 ^ 31 by omega), c_3, c_7, c_9, c_14, c_15], by simp [mFragU, mFragC, mFragN, nI_clamp (show q < 2 ^ 31 by omega), c_3, c_7, c_9, c_14, c_15]⟩, by rw [hU]; exact hP, hD⟩, hS.F hU⟩) hS.2.2 d_Md_fragile_76
          · 
            exact absurd c_15 (by decide)
    · 
      exact absurd c_7 (by decide)
set_option maxHeartbeats 4000000 in
set_option maxRecDepth 100000 in
theorem c_Md_manual (l : Launch) (D : va_G) (t : Nat → ClassId) (a : Nat → Nat) (σ : Nat → Nat → Int32) (k : Int32) (np : Nat) (hN : σ 8 0 = nI np) (hN8 : np ≤ 8) : gMi l D t y_Md_manual b_Md_manual 5 (some .int) 1 [.ref (a 0), .int k] (wMd t a σ) (wMd t a) (fun r u => r = mManR σ np k ∧ u = gSt σ 0 0 (mManC np k)) := by
  intro A
  refine Met.ofW (cc := b_Md_manual) (maxL := 5) (ret := (some .int)) (by decide) rfl ?_
  intro p e s m args below meth c s₁ B hml hv
  obtain ⟨rfl, hK, hP, hD⟩ := hv
  have hx := B.exec
  have hb := B.bytes
  have hr := B.returns
  have hts := atoms_spec (ws := .code y_Md_manual b_Md_manual 5 (some .int) :: gBig) B.pre
  have hown : s.vm.findClass R_Md = some m.cls := findClass_of_methodNamed B.named
  have hlocks := B.notSynchronized
  have hS : va_S A s.heap s.heap [] := va_S.rf
  have hl := lv_entry ([.ref (a 0), .int k]) (n := 5) (Nat.le_of_ble_eq_true rfl)
  rw [lg_entry_eq]
  generalize (lg_sl ([.ref (a 0), .int k]) ++ List.replicate (5 - (lg_sl ([.ref (a 0), .int k])).length) Slot.unset).toArray = ls at hl ⊢
  have hl : lv_has ls 5 [(0, .ref (a 0)), (1, .int k)] := hl
  show gGo l p e s m below meth c D t A 1 [.ref (a 0), .int k] (wMd t a) (fun r u => r = mManR σ np k ∧ u = gSt σ 0 0 (mManC np k)) s.heap [] (F0 m 0 ls [])
  have cut_45 : ∀ (n : Nat) (r : Nat) (q : Nat) (bf : Int32) (cd : Int32) (H : Heap) (locs : List Loc) (ls : Array Slot), (r ≤ np) → (q < np) → (np + 1 ≤ r + n) → (bf = mBefS (σ 13) q r) → (∀ (H : Heap) (locs : List Loc) (ls : Array Slot), va_P D gCl (wMd t a (gSt σ 0 0 cd)) H → va_D A (wMd t a (gSt σ 0 0 cd)) → va_S A s.heap H locs → lv_has ls 5 [(0, .ref (a 0)), (1, .int k), (2, .int (nI q)), (3, .int (mBefS (σ 13) q np))] → gGo l p e s m below meth c D t A 1 [.ref (a 0), .int k] (wMd t a) (fun r u => r = mManR σ np k ∧ u = gSt σ 0 0 (mManC np k)) H locs (F0 m 106 ls [])) → va_P D gCl (wMd t a (gSt σ 0 0 cd)) H → va_D A (wMd t a (gSt σ 0 0 cd)) → va_S A s.heap H locs → lv_has ls 5 [(0, .ref (a 0)), (1, .int k), (2, .int (nI q)), (3, .int bf), (4, .int (nI r))] → gGo l p e s m below meth c D t A 1 [.ref (a 0), .int k] (wMd t a) (fun r u => r = mManR σ np k ∧ u = gSt σ 0 0 (mManC np k)) H locs (F0 m 45 ls []) := by
    intro n
    induction n with
    | zero =>
      intro r q bf cd H locs ls hr1 hq hf hs hX hP hD hS hl
      exact absurd hf (by omega)
    | succ n ih =>
      intro r q bf cd H locs ls hr1 hq hf hs hX hP hD hS hl
      refine lv_iload hx hb d_Md_manual_45 (lv_at hl 4 rfl) ?_
      refine lv_aload_n hx hb d_Md_manual_47 rfl (lv_at hl 0 rfl) ?_
      refine va_get (D := D) (ci := 7) (v := .int ((gSt σ 0 0 cd) 8 0)) (C := R_Md) (T := F_Md) (N := 34) hx hb hts (fun w h => List.mem_cons_of_mem _ (i_Md w h)) hown hK.1 hP 0 (wMd_0 t a (gSt σ 0 0 cd)) rfl 8 (by decide) (hts (.fieldLink R_Md 113 "FlatBoxesModel" "parts" "I") (List.mem_cons_of_mem _ (gIn k_674 (by decide +kernel)))) (fun _ h9 => h9) rfl d_Md_manual_48 ?_
      refine lv_topi (fun v_1 e_1 => ?_)
      obtain rfl : nI np = v_1 := (e_1.trans hN).symm
      refine lv_icmp_ge (tgt := 106) hx hb d_Md_manual_51 (by decide) (fun c_2 => ?_) (fun c_2 => ?_)
      · 
        have h_2 : np ≤ r := (nI_leI (a := np) (b := r) (by omega) (by omega)).mp c_2
        obtain rfl : r = np := by omega
        subst hs
        exact hX _ _ _  hP hD hS (lv_sub hl [0, 1, 2, 3] rfl)
      · 
        have h_2 : ¬ np ≤ r := fun q9 => c_2 ((nI_leI (a := np) (b := r) (by omega) (by omega)).mpr q9)
        refine lv_iload_n hx hb d_Md_manual_54 rfl (lv_at hl 3 rfl) ?_
        refine lv_aload_n hx hb d_Md_manual_55 rfl (lv_at hl 0 rfl) ?_
        refine va_get (D := D) (ci := 7) (v := .ref (a 13)) (C := R_Md) (T := F_Md) (N := 34) hx hb hts (fun w h => List.mem_cons_of_mem _ (i_Md w h)) hown hK.1 hP 0 (wMd_0 t a (gSt σ 0 0 cd)) rfl 13 (by decide) (hts (.fieldLink R_Md 37 "FlatBoxesModel" "steps" "[I") (List.mem_cons_of_mem _ (gIn k_679 (by decide +kernel)))) (fun _ h9 => h9) rfl d_Md_manual_56 ?_
        refine lv_iload hx hb d_Md_manual_59 (lv_at hl 4 rfl) ?_
        refine g_iald hx hb hK.1 hP 10 0 (wMd_13 t a (gSt σ 0 0 cd)) rfl r (rfl) (by omega) (by decide) d_Md_manual_61 ?_
        refine lv_topi (fun v_3 e_3 => ?_)
        obtain rfl : σ 13 r = v_3 := (e_3.trans (rfl)).symm
        refine lv_aload_n hx hb d_Md_manual_62 rfl (lv_at hl 0 rfl) ?_
        refine va_get (D := D) (ci := 7) (v := .ref (a 13)) (C := R_Md) (T := F_Md) (N := 34) hx hb hts (fun w h => List.mem_cons_of_mem _ (i_Md w h)) hown hK.1 hP 0 (wMd_0 t a (gSt σ 0 0 cd)) rfl 13 (by decide) (hts (.fieldLink R_Md 37 "FlatBoxesModel" "steps" "[I") (List.mem_cons_of_mem _ (gIn k_679 (by decide +kernel)))) (fun _ h9 => h9) rfl d_Md_manual_63 ?_
        refine lv_iload_n hx hb d_Md_manual_66 rfl (lv_at hl 2 rfl) ?_
        refine g_iald hx hb hK.1 hP 10 0 (wMd_13 t a (gSt σ 0 0 cd)) rfl q (rfl) (by omega) (by decide) d_Md_manual_67 ?_
        refine lv_topi (fun v_4 e_4 => ?_)
        obtain rfl : σ 13 q = v_4 := (e_4.trans (rfl)).symm
        refine lv_icmp_lt (tgt := 93) hx hb d_Md_manual_68 (by decide) (fun c_5 => ?_) (fun c_5 => ?_)
        · 
          refine lv_iconst (v := 1) hx hb d_Md_manual_93 (by decide) ?_
          refine lv_goto (tgt := 98) hx hb d_Md_manual_94 (by decide) ?_
          refine lv_iadd hx hb d_Md_manual_98 ?_
          refine lv_istore_n (lv' := [(3, .int (bf + 1)), (0, .ref (a 0)), (1, .int k), (2, .int (nI q)), (4, .int (nI r))]) hx hb d_Md_manual_99 rfl hl (by decide) rfl (fun ls hl => ?_)
          refine lv_iinc (v := nI (r + 1)) (lv' := [(4, .int (nI (r + 1))), (3, .int (bf + 1)), (0, .ref (a 0)), (1, .int k), (2, .int (nI q))]) hx hb d_Md_manual_100 hl (k := 4) rfl (nI_1 r) (by decide) rfl (fun ls hl => ?_)
          refine lv_goto (tgt := 45) hx hb d_Md_manual_103 (by decide) ?_
          exact ih (r + 1) q (bf + 1) cd _ _ _ (by omega) (by omega) (by omega) (by rw [hs]; simp [mBefS, c_2, h_2, c_5]) hX hP hD hS (lv_sub hl [2, 3, 4, 1, 0] rfl)
        · 
          refine lv_aload_n hx hb d_Md_manual_71 rfl (lv_at hl 0 rfl) ?_
          refine va_get (D := D) (ci := 7) (v := .ref (a 13)) (C := R_Md) (T := F_Md) (N := 34) hx hb hts (fun w h => List.mem_cons_of_mem _ (i_Md w h)) hown hK.1 hP 0 (wMd_0 t a (gSt σ 0 0 cd)) rfl 13 (by decide) (hts (.fieldLink R_Md 37 "FlatBoxesModel" "steps" "[I") (List.mem_cons_of_mem _ (gIn k_679 (by decide +kernel)))) (fun _ h9 => h9) rfl d_Md_manual_72 ?_
          refine lv_iload hx hb d_Md_manual_75 (lv_at hl 4 rfl) ?_
          refine g_iald hx hb hK.1 hP 10 0 (wMd_13 t a (gSt σ 0 0 cd)) rfl r (rfl) (by omega) (by decide) d_Md_manual_77 ?_
          refine lv_topi (fun v_6 e_6 => ?_)
          obtain rfl : σ 13 r = v_6 := (e_6.trans (rfl)).symm
          refine lv_aload_n hx hb d_Md_manual_78 rfl (lv_at hl 0 rfl) ?_
          refine va_get (D := D) (ci := 7) (v := .ref (a 13)) (C := R_Md) (T := F_Md) (N := 34) hx hb hts (fun w h => List.mem_cons_of_mem _ (i_Md w h)) hown hK.1 hP 0 (wMd_0 t a (gSt σ 0 0 cd)) rfl 13 (by decide) (hts (.fieldLink R_Md 37 "FlatBoxesModel" "steps" "[I") (List.mem_cons_of_mem _ (gIn k_679 (by decide +kernel)))) (fun _ h9 => h9) rfl d_Md_manual_79 ?_
          refine lv_iload_n hx hb d_Md_manual_82 rfl (lv_at hl 2 rfl) ?_
          refine g_iald hx hb hK.1 hP 10 0 (wMd_13 t a (gSt σ 0 0 cd)) rfl q (rfl) (by omega) (by decide) d_Md_manual_83 ?_
          refine lv_topi (fun v_7 e_7 => ?_)
          obtain rfl : σ 13 q = v_7 := (e_7.trans (rfl)).symm
          refine lv_icmp_ne (tgt := 97) hx hb d_Md_manual_84 (by decide) (fun c_8 => ?_) (fun c_8 => ?_)
          · 
            refine lv_iconst (v := 0) hx hb d_Md_manual_97 (by decide) ?_
            refine lv_iadd hx hb d_Md_manual_98 ?_
            refine lv_istore_n (lv' := [(3, .int (bf + 0)), (0, .ref (a 0)), (1, .int k), (2, .int (nI q)), (4, .int (nI r))]) hx hb d_Md_manual_99 rfl hl (by decide) rfl (fun ls hl => ?_)
            refine lv_iinc (v := nI (r + 1)) (lv' := [(4, .int (nI (r + 1))), (3, .int (bf + 0)), (0, .ref (a 0)), (1, .int k), (2, .int (nI q))]) hx hb d_Md_manual_100 hl (k := 4) rfl (nI_1 r) (by decide) rfl (fun ls hl => ?_)
            refine lv_goto (tgt := 45) hx hb d_Md_manual_103 (by decide) ?_
            exact ih (r + 1) q (bf + 0) cd _ _ _ (by omega) (by omega) (by omega) (by rw [hs]; simp [mBefS, c_2, h_2, c_5, c_8]) hX hP hD hS (lv_sub hl [2, 3, 4, 1, 0] rfl)
          · 
            refine lv_iload hx hb d_Md_manual_87 (lv_at hl 4 rfl) ?_
            refine lv_iload_n hx hb d_Md_manual_89 rfl (lv_at hl 2 rfl) ?_
            refine lv_icmp_ge (tgt := 97) hx hb d_Md_manual_90 (by decide) (fun c_9 => ?_) (fun c_9 => ?_)
            · 
              have h_9 : q ≤ r := (nI_leI (a := q) (b := r) (by omega) (by omega)).mp c_9
              refine lv_iconst (v := 0) hx hb d_Md_manual_97 (by decide) ?_
              refine lv_iadd hx hb d_Md_manual_98 ?_
              refine lv_istore_n (lv' := [(3, .int (bf + 0)), (0, .ref (a 0)), (1, .int k), (2, .int (nI q)), (4, .int (nI r))]) hx hb d_Md_manual_99 rfl hl (by decide) rfl (fun ls hl => ?_)
              refine lv_iinc (v := nI (r + 1)) (lv' := [(4, .int (nI (r + 1))), (3, .int (bf + 0)), (0, .ref (a 0)), (1, .int k), (2, .int (nI q))]) hx hb d_Md_manual_100 hl (k := 4) rfl (nI_1 r) (by decide) rfl (fun ls hl => ?_)
              refine lv_goto (tgt := 45) hx hb d_Md_manual_103 (by decide) ?_
              exact ih (r + 1) q (bf + 0) cd _ _ _ (by omega) (by omega) (by omega) (by rw [hs]; simp [mBefS, c_2, h_2, c_5, c_8, c_9, h_9]) hX hP hD hS (lv_sub hl [2, 3, 4, 1, 0] rfl)
            · 
              have h_9 : ¬ q ≤ r := fun q9 => c_9 ((nI_leI (a := q) (b := r) (by omega) (by omega)).mpr q9)
              refine lv_iconst (v := 1) hx hb d_Md_manual_93 (by decide) ?_
              refine lv_goto (tgt := 98) hx hb d_Md_manual_94 (by decide) ?_
              refine lv_iadd hx hb d_Md_manual_98 ?_
              refine lv_istore_n (lv' := [(3, .int (bf + 1)), (0, .ref (a 0)), (1, .int k), (2, .int (nI q)), (4, .int (nI r))]) hx hb d_Md_manual_99 rfl hl (by decide) rfl (fun ls hl => ?_)
              refine lv_iinc (v := nI (r + 1)) (lv' := [(4, .int (nI (r + 1))), (3, .int (bf + 1)), (0, .ref (a 0)), (1, .int k), (2, .int (nI q))]) hx hb d_Md_manual_100 hl (k := 4) rfl (nI_1 r) (by decide) rfl (fun ls hl => ?_)
              refine lv_goto (tgt := 45) hx hb d_Md_manual_103 (by decide) ?_
              exact ih (r + 1) q (bf + 1) cd _ _ _ (by omega) (by omega) (by omega) (by rw [hs]; simp [mBefS, c_2, h_2, c_5, c_8, c_9, h_9]) hX hP hD hS (lv_sub hl [2, 3, 4, 1, 0] rfl)
  have cut_25 : ∀ (n : Nat) (d : Nat) (q : Nat) (cd : Int32) (H : Heap) (locs : List Loc) (ls : Array Slot), (q + d = np) → (d + 1 ≤ n) → (mManR σ np k = if cd = 0 then mMan (σ 13) np k d q else 0) → (mManC np k = cd) → va_P D gCl (wMd t a (gSt σ 0 0 cd)) H → va_D A (wMd t a (gSt σ 0 0 cd)) → va_S A s.heap H locs → lv_has ls 5 [(0, .ref (a 0)), (1, .int k), (2, .int (nI q))] → gGo l p e s m below meth c D t A 1 [.ref (a 0), .int k] (wMd t a) (fun r u => r = mManR σ np k ∧ u = gSt σ 0 0 (mManC np k)) H locs (F0 m 25 ls []) := by
    intro n
    induction n with
    | zero =>
      intro d q cd H locs ls hd hf hs hcu hP hD hS hl
      exact absurd hf (by omega)
    | succ n ih =>
      intro d q cd H locs ls hd hf hs hcu hP hD hS hl
      refine lv_iload_n hx hb d_Md_manual_25 rfl (lv_at hl 2 rfl) ?_
      refine lv_aload_n hx hb d_Md_manual_26 rfl (lv_at hl 0 rfl) ?_
      refine va_get (D := D) (ci := 7) (v := .int ((gSt σ 0 0 cd) 8 0)) (C := R_Md) (T := F_Md) (N := 34) hx hb hts (fun w h => List.mem_cons_of_mem _ (i_Md w h)) hown hK.1 hP 0 (wMd_0 t a (gSt σ 0 0 cd)) rfl 8 (by decide) (hts (.fieldLink R_Md 113 "FlatBoxesModel" "parts" "I") (List.mem_cons_of_mem _ (gIn k_674 (by decide +kernel)))) (fun _ h9 => h9) rfl d_Md_manual_27 ?_
      refine lv_topi (fun v_10 e_10 => ?_)
      obtain rfl : nI np = v_10 := (e_10.trans hN).symm
      refine lv_icmp_ge (tgt := 119) hx hb d_Md_manual_30 (by decide) (fun c_11 => ?_) (fun c_11 => ?_)
      · 
        have h_11 : np ≤ q := (nI_leI (a := np) (b := q) (by omega) (by omega)).mp c_11
        refine lv_iconst (v := 0) hx hb d_Md_manual_119 (by decide) ?_
        exact W.iret (v := 0) hx hb hr (fun U hU hW => ⟨⟨0, gSt σ 0 0 cd, rfl, by exact ⟨by rw [hs]; obtain rfl : d = 0 := (by omega); simp [mMan], by rw [hcu]⟩, by rw [hU]; exact hP, hD⟩, hS.F hU⟩) hS.2.2 d_Md_manual_120
      · 
        have h_11 : ¬ np ≤ q := fun q9 => c_11 ((nI_leI (a := np) (b := q) (by omega) (by omega)).mpr q9)
        obtain ⟨d, rfl⟩ : ∃ d9, d = d9 + 1 := ⟨d - 1, by omega⟩
        refine lv_aload_n hx hb d_Md_manual_33 rfl (lv_at hl 0 rfl) ?_
        refine va_get (D := D) (ci := 7) (v := .int ((gSt σ 0 0 cd) 0 0)) (C := R_Md) (T := F_Md) (N := 34) hx hb hts (fun w h => List.mem_cons_of_mem _ (i_Md w h)) hown hK.1 hP 0 (wMd_0 t a (gSt σ 0 0 cd)) rfl 0 (by decide) (hts (.fieldLink R_Md 93 "FlatBoxesModel" "code" "I") (List.mem_cons_of_mem _ (gIn k_666 (by decide +kernel)))) (fun _ h9 => h9) rfl d_Md_manual_34 ?_
        refine lv_topi (fun v_12 e_12 => ?_)
        obtain rfl : cd = v_12 := (e_12.trans (rfl)).symm
        refine lv_if_ne (tgt := 119) hx hb d_Md_manual_37 (by decide) (fun c_13 => ?_) (fun c_13 => ?_)
        · 
          refine lv_iconst (v := 0) hx hb d_Md_manual_119 (by decide) ?_
          exact W.iret (v := 0) hx hb hr (fun U hU hW => ⟨⟨0, gSt σ 0 0 cd, rfl, by exact ⟨by rw [hs]; simp [c_11, h_11, c_13], by rw [hcu]⟩, by rw [hU]; exact hP, hD⟩, hS.F hU⟩) hS.2.2 d_Md_manual_120
        · 
          refine lv_iconst (v := 0) hx hb d_Md_manual_40 (by decide) ?_
          refine lv_istore_n (lv' := [(3, .int 0), (0, .ref (a 0)), (1, .int k), (2, .int (nI q))]) hx hb d_Md_manual_41 rfl hl (by decide) rfl (fun ls hl => ?_)
          refine lv_iconst (v := 0) hx hb d_Md_manual_42 (by decide) ?_
          refine lv_istore (lv' := [(4, .int 0), (3, .int 0), (0, .ref (a 0)), (1, .int k), (2, .int (nI q))]) hx hb d_Md_manual_43 hl (by decide) rfl (fun ls hl => ?_)
          refine cut_45 (np + 1) 0 q 0 cd _ _ _ (by omega) (by omega) (by omega) (by rfl) (fun H locs ls  hP hD hS hl => ?_) hP hD hS (lv_sub hl [2, 3, 4, 1, 0] rfl)
          refine lv_iload_n hx hb d_Md_manual_106 rfl (lv_at hl 3 rfl) ?_
          refine lv_iload_n hx hb d_Md_manual_107 rfl (lv_at hl 1 rfl) ?_
          refine lv_icmp_ne (tgt := 113) hx hb d_Md_manual_108 (by decide) (fun c_14 => ?_) (fun c_14 => ?_)
          · 
            refine lv_iinc (v := nI (q + 1)) (lv' := [(2, .int (nI (q + 1))), (0, .ref (a 0)), (1, .int k), (3, .int (mBefS (σ 13) q np))]) hx hb d_Md_manual_113 hl (k := 2) rfl (nI_1 q) (by decide) rfl (fun ls hl => ?_)
            refine lv_goto (tgt := 25) hx hb d_Md_manual_116 (by decide) ?_
            exact ih d (q + 1) cd _ _ _ (by omega) (by omega) (by rw [hs]; simp [mMan, c_11, h_11, c_13, c_14]) (hcu) hP hD hS (lv_sub hl [1, 2, 0] rfl)
          · 
            refine lv_iload_n hx hb d_Md_manual_111 rfl (lv_at hl 2 rfl) ?_
            exact W.iret (v := nI q) hx hb hr (fun U hU hW => ⟨⟨nI q, gSt σ 0 0 cd, rfl, by exact ⟨by rw [hs]; simp [mMan, c_11, h_11, c_13, c_14], by rw [hcu]⟩, by rw [hU]; exact hP, hD⟩, hS.F hU⟩) hS.2.2 d_Md_manual_112
  refine lv_aload_n hx hb d_Md_manual_0 rfl (lv_at hl 0 rfl) ?_
  refine lv_iload_n hx hb d_Md_manual_1 rfl (lv_at hl 1 rfl) ?_
  refine lv_iconst (v := 0) hx hb d_Md_manual_2 (by decide) ?_
  refine lv_aload_n hx hb d_Md_manual_3 rfl (lv_at hl 0 rfl) ?_
  refine va_get (D := D) (ci := 7) (v := .int (σ 8 0)) (C := R_Md) (T := F_Md) (N := 34) hx hb hts (fun w h => List.mem_cons_of_mem _ (i_Md w h)) hown hK.1 hP 0 (wMd_0 t a σ) rfl 8 (by decide) (hts (.fieldLink R_Md 113 "FlatBoxesModel" "parts" "I") (List.mem_cons_of_mem _ (gIn k_674 (by decide +kernel)))) (fun _ h9 => h9) rfl d_Md_manual_4 ?_
  refine lv_topi (fun v_15 e_15 => ?_)
  obtain rfl : nI np = v_15 := (e_15.trans hN).symm
  refine lv_iconst (v := 1) hx hb d_Md_manual_7 (by decide) ?_
  refine lv_isub hx hb d_Md_manual_8 ?_
  refine g_si (k := 3) (As := [.int k, .int 0, .int ((nI np) - 1)]) (rest := [.ref (a 0)]) (own := R_Md) (index := 96) ⟨hx, hb, hml, hown, hts⟩ (c_Md_in l D t a σ k 0 ((nI np) - 1)) (gg_Md_96 _) (by decide +kernel) ⟨Nat.le_of_ble_eq_true rfl, Nat.le_of_ble_eq_true rfl⟩ rfl hK hP hD hS hl.1 rfl (Nat.le_of_ble_eq_true rfl) ⟨Nat.zero_le _, Nat.zero_le _⟩ d_Md_manual_9 (fun r_16 u_16 H locs q_16 hP hD hS => ?_)
  obtain ⟨rfl, hu_16⟩ := q_16
  rw [hu_16] at hP hD
  refine lv_if_eq (tgt := 19) hx hb d_Md_manual_12 (by decide) (fun c_17 => ?_) (fun c_17 => ?_)
  · 
    refine lv_iconst (v := 1) hx hb d_Md_manual_19 (by decide) ?_
    refine va_put (D := D) (ci := 7) (v := .int 1) (ty := .int) (C := R_Md) (T := F_Md) (N := 34) hx hb hts (fun w h => List.mem_cons_of_mem _ (i_Md w h)) t_Md t_Md_ok n_Md hown hK.1 hP hD hS 0 (wMd_0 t a σ) rfl 0 (by decide) (hts (.fieldLink R_Md 93 "FlatBoxesModel" "code" "I") (List.mem_cons_of_mem _ (gIn k_666 (by decide +kernel)))) (fun _ h9 => h9) rfl (by decide +kernel) rfl rfl (Nat.le_of_ble_eq_true rfl) d_Md_manual_20 (fun H locs hP hD hS => ?_)
    have hP : va_P D gCl (wMd t a (gSt σ 0 0 1)) H := hP
    have hD : va_D A (wMd t a (gSt σ 0 0 1)) := hD
    refine lv_iconst (v := 0) hx hb d_Md_manual_23 (by decide) ?_
    refine lv_istore_n (lv' := [(2, .int 0), (0, .ref (a 0)), (1, .int k)]) hx hb d_Md_manual_24 rfl hl (by decide) rfl (fun ls hl => ?_)
    exact cut_25 (np + 1) np 0 1 _ _ _ (by omega) (by omega) (by simp [mManR, mManC, c_17]) (by simp [mManC, c_17]) hP hD hS (lv_sub hl [1, 2, 0] rfl)
  · 
    refine lv_iconst (v := 0) hx hb d_Md_manual_15 (by decide) ?_
    refine lv_goto (tgt := 20) hx hb d_Md_manual_16 (by decide) ?_
    refine va_put (D := D) (ci := 7) (v := .int 0) (ty := .int) (C := R_Md) (T := F_Md) (N := 34) hx hb hts (fun w h => List.mem_cons_of_mem _ (i_Md w h)) t_Md t_Md_ok n_Md hown hK.1 hP hD hS 0 (wMd_0 t a σ) rfl 0 (by decide) (hts (.fieldLink R_Md 93 "FlatBoxesModel" "code" "I") (List.mem_cons_of_mem _ (gIn k_666 (by decide +kernel)))) (fun _ h9 => h9) rfl (by decide +kernel) rfl rfl (Nat.le_of_ble_eq_true rfl) d_Md_manual_20 (fun H locs hP hD hS => ?_)
    have hP : va_P D gCl (wMd t a (gSt σ 0 0 0)) H := hP
    have hD : va_D A (wMd t a (gSt σ 0 0 0)) := hD
    refine lv_iconst (v := 0) hx hb d_Md_manual_23 (by decide) ?_
    refine lv_istore_n (lv' := [(2, .int 0), (0, .ref (a 0)), (1, .int k)]) hx hb d_Md_manual_24 rfl hl (by decide) rfl (fun ls hl => ?_)
    exact cut_25 (np + 1) np 0 0 _ _ _ (by omega) (by omega) (by simp [mManR, mManC, c_17]) (by simp [mManC, c_17]) hP hD hS (lv_sub hl [1, 2, 0] rfl)
set_option maxHeartbeats 4000000 in
set_option maxRecDepth 100000 in
theorem c_Md_into (l : Launch) (D : va_G) (t : Nat → ClassId) (a : Nat → Nat) (σ : Nat → Nat → Int32) (bg mn ec sp : Int32) (nb : Nat) (kc : Nat → Nat) (hB : σ 29 0 = nI nb) (hB4 : nb ≤ 4) (hkc : ∀ b, b < nb → σ 30 b = nI (kc b) ∧ kc b ≤ 6) : gMi l D t y_Md_into b_Md_into 7 (some .int) 1 [.ref (a 0), .int bg, .int mn, .int ec, .int sp] (wMd t a σ) (wMd t a) (fun r u => r = mIntoR nb kc bg mn ec sp ∧ u = mIntoU σ nb kc bg mn ec sp) := by
  intro A
  refine Met.ofW (cc := b_Md_into) (maxL := 7) (ret := (some .int)) (by decide) rfl ?_
  intro p e s m args below meth c s₁ B hml hv
  obtain ⟨rfl, hK, hP, hD⟩ := hv
  have hx := B.exec
  have hb := B.bytes
  have hr := B.returns
  have hts := atoms_spec (ws := .code y_Md_into b_Md_into 7 (some .int) :: gBig) B.pre
  have hown : s.vm.findClass R_Md = some m.cls := findClass_of_methodNamed B.named
  have hlocks := B.notSynchronized
  have hS : va_S A s.heap s.heap [] := va_S.rf
  have hl := lv_entry ([.ref (a 0), .int bg, .int mn, .int ec, .int sp]) (n := 7) (Nat.le_of_ble_eq_true rfl)
  rw [lg_entry_eq]
  generalize (lg_sl ([.ref (a 0), .int bg, .int mn, .int ec, .int sp]) ++ List.replicate (7 - (lg_sl ([.ref (a 0), .int bg, .int mn, .int ec, .int sp])).length) Slot.unset).toArray = ls at hl ⊢
  have hl : lv_has ls 7 [(0, .ref (a 0)), (1, .int bg), (2, .int mn), (3, .int ec), (4, .int sp)] := hl
  show gGo l p e s m below meth c D t A 1 [.ref (a 0), .int bg, .int mn, .int ec, .int sp] (wMd t a) (fun r u => r = mIntoR nb kc bg mn ec sp ∧ u = mIntoU σ nb kc bg mn ec sp) s.heap [] (F0 m 0 ls [])
  refine lv_iload_n hx hb d_Md_into_0 rfl (lv_at hl 2 rfl) ?_
  refine lv_iconst (v := 0) hx hb d_Md_into_1 (by decide) ?_
  refine lv_sipush (v := 1000) hx hb d_Md_into_2 (by decide) ?_
  refine g_si (k := 3) (As := [.int mn, .int 0, .int 1000]) (rest := []) (own := R_Md) (index := 96) ⟨hx, hb, hml, hown, hts⟩ (c_Md_in l D t a σ mn 0 1000) (gg_Md_96 _) (by decide +kernel) ⟨Nat.le_of_ble_eq_true rfl, Nat.le_of_ble_eq_true rfl⟩ rfl hK hP hD hS hl.1 rfl (Nat.le_of_ble_eq_true rfl) ⟨Nat.zero_le _, Nat.zero_le _⟩ d_Md_into_5 (fun r_1 u_1 H locs q_1 hP hD hS => ?_)
  obtain ⟨rfl, hu_1⟩ := q_1
  rw [hu_1] at hP hD
  refine lv_if_eq (tgt := 36) hx hb d_Md_into_8 (by decide) (fun c_2 => ?_) (fun c_2 => ?_)
  · 
    refine lv_iconst (v := 0) hx hb d_Md_into_36 (by decide) ?_
    refine lv_istore (lv' := [(5, .int 0), (0, .ref (a 0)), (1, .int bg), (2, .int mn), (3, .int ec), (4, .int sp)]) hx hb d_Md_into_37 hl (by decide) rfl (fun ls hl => ?_)
    refine lv_aload_n hx hb d_Md_into_39 rfl (lv_at hl 1 rfl) ?_
    refine lv_iload_n hx hb d_Md_into_40 rfl (lv_at hl 2 rfl) ?_
    refine lv_iconst (v := 0) hx hb d_Md_into_41 (by decide) ?_
    refine lv_aload_n hx hb d_Md_into_42 rfl (lv_at hl 1 rfl) ?_
    refine va_get (D := D) (ci := 7) (v := .int (σ 29 0)) (C := R_Md) (T := F_Md) (N := 34) hx hb hts (fun w h => List.mem_cons_of_mem _ (i_Md w h)) hown hK.1 hP 0 (wMd_0 t a σ) rfl 29 (by decide) (hts (.fieldLink R_Md 164 "FlatBoxesModel" "bags" "I") (List.mem_cons_of_mem _ (gIn k_695 (by decide +kernel)))) (fun _ h9 => h9) rfl d_Md_into_43 ?_
    refine lv_topi (fun v_3 e_3 => ?_)
    obtain rfl : nI nb = v_3 := (e_3.trans hB).symm
    refine lv_iconst (v := 1) hx hb d_Md_into_46 (by decide) ?_
    refine lv_isub hx hb d_Md_into_47 ?_
    refine g_si (k := 3) (As := [.int bg, .int 0, .int ((nI nb) - 1)]) (rest := [.ref (a 0)]) (own := R_Md) (index := 96) ⟨hx, hb, hml, hown, hts⟩ (c_Md_in l D t a σ bg 0 ((nI nb) - 1)) (gg_Md_96 _) (by decide +kernel) ⟨Nat.le_of_ble_eq_true rfl, Nat.le_of_ble_eq_true rfl⟩ rfl hK hP hD hS hl.1 rfl (Nat.le_of_ble_eq_true rfl) ⟨Nat.zero_le _, Nat.zero_le _⟩ d_Md_into_48 (fun r_4 u_4 H locs q_4 hP hD hS => ?_)
    obtain ⟨rfl, hu_4⟩ := q_4
    rw [hu_4] at hP hD
    refine lv_if_ne (tgt := 58) hx hb d_Md_into_51 (by decide) (fun c_5 => ?_) (fun c_5 => ?_)
    · 
      refine lv_iload hx hb d_Md_into_58 (lv_at hl 0 rfl) ?_
      refine lv_if_ne (tgt := 67) hx hb d_Md_into_60 (by decide) (fun c_6 => ?_) (fun c_6 => ?_)
      · 
        exact absurd c_6 (by decide)
      · 
        refine lv_iconst (v := 2) hx hb d_Md_into_63 (by decide) ?_
        refine lv_goto (tgt := 83) hx hb d_Md_into_64 (by decide) ?_
        refine va_put (D := D) (ci := 7) (v := .int 2) (ty := .int) (C := R_Md) (T := F_Md) (N := 34) hx hb hts (fun w h => List.mem_cons_of_mem _ (i_Md w h)) t_Md t_Md_ok n_Md hown hK.1 hP hD hS 0 (wMd_0 t a σ) rfl 0 (by decide) (hts (.fieldLink R_Md 93 "FlatBoxesModel" "code" "I") (List.mem_cons_of_mem _ (gIn k_666 (by decide +kernel)))) (fun _ h9 => h9) rfl (by decide +kernel) rfl rfl (Nat.le_of_ble_eq_true rfl) d_Md_into_83 (fun H locs hP hD hS => ?_)
        have hP : va_P D gCl (wMd t a (gSt σ 0 0 2)) H := hP
        have hD : va_D A (wMd t a (gSt σ 0 0 2)) := hD
        refine lv_aload_n hx hb d_Md_into_86 rfl (lv_at hl 1 rfl) ?_
        refine va_get (D := D) (ci := 7) (v := .int ((gSt σ 0 0 2) 0 0)) (C := R_Md) (T := F_Md) (N := 34) hx hb hts (fun w h => List.mem_cons_of_mem _ (i_Md w h)) hown hK.1 hP 0 (wMd_0 t a (gSt σ 0 0 2)) rfl 0 (by decide) (hts (.fieldLink R_Md 93 "FlatBoxesModel" "code" "I") (List.mem_cons_of_mem _ (gIn k_666 (by decide +kernel)))) (fun _ h9 => h9) rfl d_Md_into_87 ?_
        refine lv_topi (fun v_7 e_7 => ?_)
        obtain rfl : 2 = v_7 := (e_7.trans (rfl)).symm
        refine lv_if_le (tgt := 95) hx hb d_Md_into_90 (by decide) (fun c_8 => ?_) (fun c_8 => ?_)
        · 
          exact absurd c_8 (by decide)
        · 
          refine lv_iconst (v := 0) hx hb d_Md_into_93 (by decide) ?_
          exact W.iret (v := 0) hx hb hr (fun U hU hW => ⟨⟨0, gSt σ 0 0 2, rfl, by exact ⟨by simp [mIntoR, mIntoC, mIntoG, c_2, c_5, c_6, c_8], by simp [mIntoU, mIntoC, mIntoG, c_2, c_5, c_6, c_8]⟩, by rw [hU]; exact hP, hD⟩, hS.F hU⟩) hS.2.2 d_Md_into_94
    · 
      refine lv_iconst (v := 1) hx hb d_Md_into_54 (by decide) ?_
      refine lv_goto (tgt := 83) hx hb d_Md_into_55 (by decide) ?_
      refine va_put (D := D) (ci := 7) (v := .int 1) (ty := .int) (C := R_Md) (T := F_Md) (N := 34) hx hb hts (fun w h => List.mem_cons_of_mem _ (i_Md w h)) t_Md t_Md_ok n_Md hown hK.1 hP hD hS 0 (wMd_0 t a σ) rfl 0 (by decide) (hts (.fieldLink R_Md 93 "FlatBoxesModel" "code" "I") (List.mem_cons_of_mem _ (gIn k_666 (by decide +kernel)))) (fun _ h9 => h9) rfl (by decide +kernel) rfl rfl (Nat.le_of_ble_eq_true rfl) d_Md_into_83 (fun H locs hP hD hS => ?_)
      have hP : va_P D gCl (wMd t a (gSt σ 0 0 1)) H := hP
      have hD : va_D A (wMd t a (gSt σ 0 0 1)) := hD
      refine lv_aload_n hx hb d_Md_into_86 rfl (lv_at hl 1 rfl) ?_
      refine va_get (D := D) (ci := 7) (v := .int ((gSt σ 0 0 1) 0 0)) (C := R_Md) (T := F_Md) (N := 34) hx hb hts (fun w h => List.mem_cons_of_mem _ (i_Md w h)) hown hK.1 hP 0 (wMd_0 t a (gSt σ 0 0 1)) rfl 0 (by decide) (hts (.fieldLink R_Md 93 "FlatBoxesModel" "code" "I") (List.mem_cons_of_mem _ (gIn k_666 (by decide +kernel)))) (fun _ h9 => h9) rfl d_Md_into_87 ?_
      refine lv_topi (fun v_9 e_9 => ?_)
      obtain rfl : 1 = v_9 := (e_9.trans (rfl)).symm
      refine lv_if_le (tgt := 95) hx hb d_Md_into_90 (by decide) (fun c_10 => ?_) (fun c_10 => ?_)
      · 
        exact absurd c_10 (by decide)
      · 
        refine lv_iconst (v := 0) hx hb d_Md_into_93 (by decide) ?_
        exact W.iret (v := 0) hx hb hr (fun U hU hW => ⟨⟨0, gSt σ 0 0 1, rfl, by exact ⟨by simp [mIntoR, mIntoC, mIntoG, c_2, c_5, c_10], by simp [mIntoU, mIntoC, mIntoG, c_2, c_5, c_10]⟩, by rw [hU]; exact hP, hD⟩, hS.F hU⟩) hS.2.2 d_Md_into_94
  · 
    refine lv_iload_n hx hb d_Md_into_11 rfl (lv_at hl 3 rfl) ?_
    refine lv_iconst (v := 1) hx hb d_Md_into_12 (by decide) ?_
    refine lv_sipush (v := 1000) hx hb d_Md_into_13 (by decide) ?_
    refine g_si (k := 3) (As := [.int ec, .int 1, .int 1000]) (rest := []) (own := R_Md) (index := 96) ⟨hx, hb, hml, hown, hts⟩ (c_Md_in l D t a σ ec 1 1000) (gg_Md_96 _) (by decide +kernel) ⟨Nat.le_of_ble_eq_true rfl, Nat.le_of_ble_eq_true rfl⟩ rfl hK hP hD hS hl.1 rfl (Nat.le_of_ble_eq_true rfl) ⟨Nat.zero_le _, Nat.zero_le _⟩ d_Md_into_16 (fun r_11 u_11 H locs q_11 hP hD hS => ?_)
    obtain ⟨rfl, hu_11⟩ := q_11
    rw [hu_11] at hP hD
    refine lv_if_eq (tgt := 36) hx hb d_Md_into_19 (by decide) (fun c_12 => ?_) (fun c_12 => ?_)
    · 
      refine lv_iconst (v := 0) hx hb d_Md_into_36 (by decide) ?_
      refine lv_istore (lv' := [(5, .int 0), (0, .ref (a 0)), (1, .int bg), (2, .int mn), (3, .int ec), (4, .int sp)]) hx hb d_Md_into_37 hl (by decide) rfl (fun ls hl => ?_)
      refine lv_aload_n hx hb d_Md_into_39 rfl (lv_at hl 1 rfl) ?_
      refine lv_iload_n hx hb d_Md_into_40 rfl (lv_at hl 2 rfl) ?_
      refine lv_iconst (v := 0) hx hb d_Md_into_41 (by decide) ?_
      refine lv_aload_n hx hb d_Md_into_42 rfl (lv_at hl 1 rfl) ?_
      refine va_get (D := D) (ci := 7) (v := .int (σ 29 0)) (C := R_Md) (T := F_Md) (N := 34) hx hb hts (fun w h => List.mem_cons_of_mem _ (i_Md w h)) hown hK.1 hP 0 (wMd_0 t a σ) rfl 29 (by decide) (hts (.fieldLink R_Md 164 "FlatBoxesModel" "bags" "I") (List.mem_cons_of_mem _ (gIn k_695 (by decide +kernel)))) (fun _ h9 => h9) rfl d_Md_into_43 ?_
      refine lv_topi (fun v_13 e_13 => ?_)
      obtain rfl : nI nb = v_13 := (e_13.trans hB).symm
      refine lv_iconst (v := 1) hx hb d_Md_into_46 (by decide) ?_
      refine lv_isub hx hb d_Md_into_47 ?_
      refine g_si (k := 3) (As := [.int bg, .int 0, .int ((nI nb) - 1)]) (rest := [.ref (a 0)]) (own := R_Md) (index := 96) ⟨hx, hb, hml, hown, hts⟩ (c_Md_in l D t a σ bg 0 ((nI nb) - 1)) (gg_Md_96 _) (by decide +kernel) ⟨Nat.le_of_ble_eq_true rfl, Nat.le_of_ble_eq_true rfl⟩ rfl hK hP hD hS hl.1 rfl (Nat.le_of_ble_eq_true rfl) ⟨Nat.zero_le _, Nat.zero_le _⟩ d_Md_into_48 (fun r_14 u_14 H locs q_14 hP hD hS => ?_)
      obtain ⟨rfl, hu_14⟩ := q_14
      rw [hu_14] at hP hD
      refine lv_if_ne (tgt := 58) hx hb d_Md_into_51 (by decide) (fun c_15 => ?_) (fun c_15 => ?_)
      · 
        refine lv_iload hx hb d_Md_into_58 (lv_at hl 0 rfl) ?_
        refine lv_if_ne (tgt := 67) hx hb d_Md_into_60 (by decide) (fun c_16 => ?_) (fun c_16 => ?_)
        · 
          exact absurd c_16 (by decide)
        · 
          refine lv_iconst (v := 2) hx hb d_Md_into_63 (by decide) ?_
          refine lv_goto (tgt := 83) hx hb d_Md_into_64 (by decide) ?_
          refine va_put (D := D) (ci := 7) (v := .int 2) (ty := .int) (C := R_Md) (T := F_Md) (N := 34) hx hb hts (fun w h => List.mem_cons_of_mem _ (i_Md w h)) t_Md t_Md_ok n_Md hown hK.1 hP hD hS 0 (wMd_0 t a σ) rfl 0 (by decide) (hts (.fieldLink R_Md 93 "FlatBoxesModel" "code" "I") (List.mem_cons_of_mem _ (gIn k_666 (by decide +kernel)))) (fun _ h9 => h9) rfl (by decide +kernel) rfl rfl (Nat.le_of_ble_eq_true rfl) d_Md_into_83 (fun H locs hP hD hS => ?_)
          have hP : va_P D gCl (wMd t a (gSt σ 0 0 2)) H := hP
          have hD : va_D A (wMd t a (gSt σ 0 0 2)) := hD
          refine lv_aload_n hx hb d_Md_into_86 rfl (lv_at hl 1 rfl) ?_
          refine va_get (D := D) (ci := 7) (v := .int ((gSt σ 0 0 2) 0 0)) (C := R_Md) (T := F_Md) (N := 34) hx hb hts (fun w h => List.mem_cons_of_mem _ (i_Md w h)) hown hK.1 hP 0 (wMd_0 t a (gSt σ 0 0 2)) rfl 0 (by decide) (hts (.fieldLink R_Md 93 "FlatBoxesModel" "code" "I") (List.mem_cons_of_mem _ (gIn k_666 (by decide +kernel)))) (fun _ h9 => h9) rfl d_Md_into_87 ?_
          refine lv_topi (fun v_17 e_17 => ?_)
          obtain rfl : 2 = v_17 := (e_17.trans (rfl)).symm
          refine lv_if_le (tgt := 95) hx hb d_Md_into_90 (by decide) (fun c_18 => ?_) (fun c_18 => ?_)
          · 
            exact absurd c_18 (by decide)
          · 
            refine lv_iconst (v := 0) hx hb d_Md_into_93 (by decide) ?_
            exact W.iret (v := 0) hx hb hr (fun U hU hW => ⟨⟨0, gSt σ 0 0 2, rfl, by exact ⟨by simp [mIntoR, mIntoC, mIntoG, c_2, c_12, c_15, c_16, c_18], by simp [mIntoU, mIntoC, mIntoG, c_2, c_12, c_15, c_16, c_18]⟩, by rw [hU]; exact hP, hD⟩, hS.F hU⟩) hS.2.2 d_Md_into_94
      · 
        refine lv_iconst (v := 1) hx hb d_Md_into_54 (by decide) ?_
        refine lv_goto (tgt := 83) hx hb d_Md_into_55 (by decide) ?_
        refine va_put (D := D) (ci := 7) (v := .int 1) (ty := .int) (C := R_Md) (T := F_Md) (N := 34) hx hb hts (fun w h => List.mem_cons_of_mem _ (i_Md w h)) t_Md t_Md_ok n_Md hown hK.1 hP hD hS 0 (wMd_0 t a σ) rfl 0 (by decide) (hts (.fieldLink R_Md 93 "FlatBoxesModel" "code" "I") (List.mem_cons_of_mem _ (gIn k_666 (by decide +kernel)))) (fun _ h9 => h9) rfl (by decide +kernel) rfl rfl (Nat.le_of_ble_eq_true rfl) d_Md_into_83 (fun H locs hP hD hS => ?_)
        have hP : va_P D gCl (wMd t a (gSt σ 0 0 1)) H := hP
        have hD : va_D A (wMd t a (gSt σ 0 0 1)) := hD
        refine lv_aload_n hx hb d_Md_into_86 rfl (lv_at hl 1 rfl) ?_
        refine va_get (D := D) (ci := 7) (v := .int ((gSt σ 0 0 1) 0 0)) (C := R_Md) (T := F_Md) (N := 34) hx hb hts (fun w h => List.mem_cons_of_mem _ (i_Md w h)) hown hK.1 hP 0 (wMd_0 t a (gSt σ 0 0 1)) rfl 0 (by decide) (hts (.fieldLink R_Md 93 "FlatBoxesModel" "code" "I") (List.mem_cons_of_mem _ (gIn k_666 (by decide +kernel)))) (fun _ h9 => h9) rfl d_Md_into_87 ?_
        refine lv_topi (fun v_19 e_19 => ?_)
        obtain rfl : 1 = v_19 := (e_19.trans (rfl)).symm
        refine lv_if_le (tgt := 95) hx hb d_Md_into_90 (by decide) (fun c_20 => ?_) (fun c_20 => ?_)
        · 
          exact absurd c_20 (by decide)
        · 
          refine lv_iconst (v := 0) hx hb d_Md_into_93 (by decide) ?_
          exact W.iret (v := 0) hx hb hr (fun U hU hW => ⟨⟨0, gSt σ 0 0 1, rfl, by exact ⟨by simp [mIntoR, mIntoC, mIntoG, c_2, c_12, c_15, c_20], by simp [mIntoU, mIntoC, mIntoG, c_2, c_12, c_15, c_20]⟩, by rw [hU]; exact hP, hD⟩, hS.F hU⟩) hS.2.2 d_Md_into_94
    · 
      refine lv_iload hx hb d_Md_into_22 (lv_at hl 4 rfl) ?_
      refine lv_iconst (v := 0) hx hb d_Md_into_24 (by decide) ?_
      refine lv_iload_n hx hb d_Md_into_25 rfl (lv_at hl 3 rfl) ?_
      refine g_si (k := 3) (As := [.int sp, .int 0, .int ec]) (rest := []) (own := R_Md) (index := 96) ⟨hx, hb, hml, hown, hts⟩ (c_Md_in l D t a σ sp 0 ec) (gg_Md_96 _) (by decide +kernel) ⟨Nat.le_of_ble_eq_true rfl, Nat.le_of_ble_eq_true rfl⟩ rfl hK hP hD hS hl.1 rfl (Nat.le_of_ble_eq_true rfl) ⟨Nat.zero_le _, Nat.zero_le _⟩ d_Md_into_26 (fun r_21 u_21 H locs q_21 hP hD hS => ?_)
      obtain ⟨rfl, hu_21⟩ := q_21
      rw [hu_21] at hP hD
      refine lv_if_eq (tgt := 36) hx hb d_Md_into_29 (by decide) (fun c_22 => ?_) (fun c_22 => ?_)
      · 
        refine lv_iconst (v := 0) hx hb d_Md_into_36 (by decide) ?_
        refine lv_istore (lv' := [(5, .int 0), (0, .ref (a 0)), (1, .int bg), (2, .int mn), (3, .int ec), (4, .int sp)]) hx hb d_Md_into_37 hl (by decide) rfl (fun ls hl => ?_)
        refine lv_aload_n hx hb d_Md_into_39 rfl (lv_at hl 1 rfl) ?_
        refine lv_iload_n hx hb d_Md_into_40 rfl (lv_at hl 2 rfl) ?_
        refine lv_iconst (v := 0) hx hb d_Md_into_41 (by decide) ?_
        refine lv_aload_n hx hb d_Md_into_42 rfl (lv_at hl 1 rfl) ?_
        refine va_get (D := D) (ci := 7) (v := .int (σ 29 0)) (C := R_Md) (T := F_Md) (N := 34) hx hb hts (fun w h => List.mem_cons_of_mem _ (i_Md w h)) hown hK.1 hP 0 (wMd_0 t a σ) rfl 29 (by decide) (hts (.fieldLink R_Md 164 "FlatBoxesModel" "bags" "I") (List.mem_cons_of_mem _ (gIn k_695 (by decide +kernel)))) (fun _ h9 => h9) rfl d_Md_into_43 ?_
        refine lv_topi (fun v_23 e_23 => ?_)
        obtain rfl : nI nb = v_23 := (e_23.trans hB).symm
        refine lv_iconst (v := 1) hx hb d_Md_into_46 (by decide) ?_
        refine lv_isub hx hb d_Md_into_47 ?_
        refine g_si (k := 3) (As := [.int bg, .int 0, .int ((nI nb) - 1)]) (rest := [.ref (a 0)]) (own := R_Md) (index := 96) ⟨hx, hb, hml, hown, hts⟩ (c_Md_in l D t a σ bg 0 ((nI nb) - 1)) (gg_Md_96 _) (by decide +kernel) ⟨Nat.le_of_ble_eq_true rfl, Nat.le_of_ble_eq_true rfl⟩ rfl hK hP hD hS hl.1 rfl (Nat.le_of_ble_eq_true rfl) ⟨Nat.zero_le _, Nat.zero_le _⟩ d_Md_into_48 (fun r_24 u_24 H locs q_24 hP hD hS => ?_)
        obtain ⟨rfl, hu_24⟩ := q_24
        rw [hu_24] at hP hD
        refine lv_if_ne (tgt := 58) hx hb d_Md_into_51 (by decide) (fun c_25 => ?_) (fun c_25 => ?_)
        · 
          refine lv_iload hx hb d_Md_into_58 (lv_at hl 0 rfl) ?_
          refine lv_if_ne (tgt := 67) hx hb d_Md_into_60 (by decide) (fun c_26 => ?_) (fun c_26 => ?_)
          · 
            exact absurd c_26 (by decide)
          · 
            refine lv_iconst (v := 2) hx hb d_Md_into_63 (by decide) ?_
            refine lv_goto (tgt := 83) hx hb d_Md_into_64 (by decide) ?_
            refine va_put (D := D) (ci := 7) (v := .int 2) (ty := .int) (C := R_Md) (T := F_Md) (N := 34) hx hb hts (fun w h => List.mem_cons_of_mem _ (i_Md w h)) t_Md t_Md_ok n_Md hown hK.1 hP hD hS 0 (wMd_0 t a σ) rfl 0 (by decide) (hts (.fieldLink R_Md 93 "FlatBoxesModel" "code" "I") (List.mem_cons_of_mem _ (gIn k_666 (by decide +kernel)))) (fun _ h9 => h9) rfl (by decide +kernel) rfl rfl (Nat.le_of_ble_eq_true rfl) d_Md_into_83 (fun H locs hP hD hS => ?_)
            have hP : va_P D gCl (wMd t a (gSt σ 0 0 2)) H := hP
            have hD : va_D A (wMd t a (gSt σ 0 0 2)) := hD
            refine lv_aload_n hx hb d_Md_into_86 rfl (lv_at hl 1 rfl) ?_
            refine va_get (D := D) (ci := 7) (v := .int ((gSt σ 0 0 2) 0 0)) (C := R_Md) (T := F_Md) (N := 34) hx hb hts (fun w h => List.mem_cons_of_mem _ (i_Md w h)) hown hK.1 hP 0 (wMd_0 t a (gSt σ 0 0 2)) rfl 0 (by decide) (hts (.fieldLink R_Md 93 "FlatBoxesModel" "code" "I") (List.mem_cons_of_mem _ (gIn k_666 (by decide +kernel)))) (fun _ h9 => h9) rfl d_Md_into_87 ?_
            refine lv_topi (fun v_27 e_27 => ?_)
            obtain rfl : 2 = v_27 := (e_27.trans (rfl)).symm
            refine lv_if_le (tgt := 95) hx hb d_Md_into_90 (by decide) (fun c_28 => ?_) (fun c_28 => ?_)
            · 
              exact absurd c_28 (by decide)
            · 
              refine lv_iconst (v := 0) hx hb d_Md_into_93 (by decide) ?_
              exact W.iret (v := 0) hx hb hr (fun U hU hW => ⟨⟨0, gSt σ 0 0 2, rfl, by exact ⟨by simp [mIntoR, mIntoC, mIntoG, c_2, c_12, c_22, c_25, c_26, c_28], by simp [mIntoU, mIntoC, mIntoG, c_2, c_12, c_22, c_25, c_26, c_28]⟩, by rw [hU]; exact hP, hD⟩, hS.F hU⟩) hS.2.2 d_Md_into_94
        · 
          refine lv_iconst (v := 1) hx hb d_Md_into_54 (by decide) ?_
          refine lv_goto (tgt := 83) hx hb d_Md_into_55 (by decide) ?_
          refine va_put (D := D) (ci := 7) (v := .int 1) (ty := .int) (C := R_Md) (T := F_Md) (N := 34) hx hb hts (fun w h => List.mem_cons_of_mem _ (i_Md w h)) t_Md t_Md_ok n_Md hown hK.1 hP hD hS 0 (wMd_0 t a σ) rfl 0 (by decide) (hts (.fieldLink R_Md 93 "FlatBoxesModel" "code" "I") (List.mem_cons_of_mem _ (gIn k_666 (by decide +kernel)))) (fun _ h9 => h9) rfl (by decide +kernel) rfl rfl (Nat.le_of_ble_eq_true rfl) d_Md_into_83 (fun H locs hP hD hS => ?_)
          have hP : va_P D gCl (wMd t a (gSt σ 0 0 1)) H := hP
          have hD : va_D A (wMd t a (gSt σ 0 0 1)) := hD
          refine lv_aload_n hx hb d_Md_into_86 rfl (lv_at hl 1 rfl) ?_
          refine va_get (D := D) (ci := 7) (v := .int ((gSt σ 0 0 1) 0 0)) (C := R_Md) (T := F_Md) (N := 34) hx hb hts (fun w h => List.mem_cons_of_mem _ (i_Md w h)) hown hK.1 hP 0 (wMd_0 t a (gSt σ 0 0 1)) rfl 0 (by decide) (hts (.fieldLink R_Md 93 "FlatBoxesModel" "code" "I") (List.mem_cons_of_mem _ (gIn k_666 (by decide +kernel)))) (fun _ h9 => h9) rfl d_Md_into_87 ?_
          refine lv_topi (fun v_29 e_29 => ?_)
          obtain rfl : 1 = v_29 := (e_29.trans (rfl)).symm
          refine lv_if_le (tgt := 95) hx hb d_Md_into_90 (by decide) (fun c_30 => ?_) (fun c_30 => ?_)
          · 
            exact absurd c_30 (by decide)
          · 
            refine lv_iconst (v := 0) hx hb d_Md_into_93 (by decide) ?_
            exact W.iret (v := 0) hx hb hr (fun U hU hW => ⟨⟨0, gSt σ 0 0 1, rfl, by exact ⟨by simp [mIntoR, mIntoC, mIntoG, c_2, c_12, c_22, c_25, c_30], by simp [mIntoU, mIntoC, mIntoG, c_2, c_12, c_22, c_25, c_30]⟩, by rw [hU]; exact hP, hD⟩, hS.F hU⟩) hS.2.2 d_Md_into_94
      · 
        refine lv_iconst (v := 1) hx hb d_Md_into_32 (by decide) ?_
        refine lv_goto (tgt := 37) hx hb d_Md_into_33 (by decide) ?_
        refine lv_istore (lv' := [(5, .int 1), (0, .ref (a 0)), (1, .int bg), (2, .int mn), (3, .int ec), (4, .int sp)]) hx hb d_Md_into_37 hl (by decide) rfl (fun ls hl => ?_)
        refine lv_aload_n hx hb d_Md_into_39 rfl (lv_at hl 1 rfl) ?_
        refine lv_iload_n hx hb d_Md_into_40 rfl (lv_at hl 2 rfl) ?_
        refine lv_iconst (v := 0) hx hb d_Md_into_41 (by decide) ?_
        refine lv_aload_n hx hb d_Md_into_42 rfl (lv_at hl 1 rfl) ?_
        refine va_get (D := D) (ci := 7) (v := .int (σ 29 0)) (C := R_Md) (T := F_Md) (N := 34) hx hb hts (fun w h => List.mem_cons_of_mem _ (i_Md w h)) hown hK.1 hP 0 (wMd_0 t a σ) rfl 29 (by decide) (hts (.fieldLink R_Md 164 "FlatBoxesModel" "bags" "I") (List.mem_cons_of_mem _ (gIn k_695 (by decide +kernel)))) (fun _ h9 => h9) rfl d_Md_into_43 ?_
        refine lv_topi (fun v_31 e_31 => ?_)
        obtain rfl : nI nb = v_31 := (e_31.trans hB).symm
        refine lv_iconst (v := 1) hx hb d_Md_into_46 (by decide) ?_
        refine lv_isub hx hb d_Md_into_47 ?_
        refine g_si (k := 3) (As := [.int bg, .int 0, .int ((nI nb) - 1)]) (rest := [.ref (a 0)]) (own := R_Md) (index := 96) ⟨hx, hb, hml, hown, hts⟩ (c_Md_in l D t a σ bg 0 ((nI nb) - 1)) (gg_Md_96 _) (by decide +kernel) ⟨Nat.le_of_ble_eq_true rfl, Nat.le_of_ble_eq_true rfl⟩ rfl hK hP hD hS hl.1 rfl (Nat.le_of_ble_eq_true rfl) ⟨Nat.zero_le _, Nat.zero_le _⟩ d_Md_into_48 (fun r_32 u_32 H locs q_32 hP hD hS => ?_)
        obtain ⟨rfl, hu_32⟩ := q_32
        rw [hu_32] at hP hD
        refine lv_if_ne (tgt := 58) hx hb d_Md_into_51 (by decide) (fun c_33 => ?_) (fun c_33 => ?_)
        · 
          refine lv_iload hx hb d_Md_into_58 (lv_at hl 0 rfl) ?_
          refine lv_if_ne (tgt := 67) hx hb d_Md_into_60 (by decide) (fun c_34 => ?_) (fun c_34 => ?_)
          · 
            obtain ⟨b, hbn, rfl⟩ := mIn_nat (n := nb) (by omega) c_33
            have hk6 := (hkc b hbn).2
            refine lv_aload_n hx hb d_Md_into_67 rfl (lv_at hl 1 rfl) ?_
            refine va_get (D := D) (ci := 7) (v := .ref (a 30)) (C := R_Md) (T := F_Md) (N := 34) hx hb hts (fun w h => List.mem_cons_of_mem _ (i_Md w h)) hown hK.1 hP 0 (wMd_0 t a σ) rfl 30 (by decide) (hts (.fieldLink R_Md 77 "FlatBoxesModel" "kindCounts" "[I") (List.mem_cons_of_mem _ (gIn k_696 (by decide +kernel)))) (fun _ h9 => h9) rfl d_Md_into_68 ?_
            refine lv_iload_n hx hb d_Md_into_71 rfl (lv_at hl 2 rfl) ?_
            refine g_iald hx hb hK.1 hP 23 0 (wMd_30 t a σ) rfl b (rfl) (by omega) (by decide) d_Md_into_72 ?_
            refine lv_topi (fun v_35 e_35 => ?_)
            obtain rfl : nI (kc b) = v_35 := (e_35.trans ((hkc b (by omega)).1)).symm
            refine lv_bipush (v := 6) hx hb d_Md_into_73 (by decide) ?_
            refine lv_icmp_ne (tgt := 82) hx hb d_Md_into_75 (by decide) (fun c_36 => ?_) (fun c_36 => ?_)
            · 
              have h_36 : ¬ kc b = 6 := fun q9 => c_36 ((nI_eq (a := kc b) (b := 6) (by omega) (by omega)).mpr q9)
              refine lv_iconst (v := 0) hx hb d_Md_into_82 (by decide) ?_
              refine va_put (D := D) (ci := 7) (v := .int 0) (ty := .int) (C := R_Md) (T := F_Md) (N := 34) hx hb hts (fun w h => List.mem_cons_of_mem _ (i_Md w h)) t_Md t_Md_ok n_Md hown hK.1 hP hD hS 0 (wMd_0 t a σ) rfl 0 (by decide) (hts (.fieldLink R_Md 93 "FlatBoxesModel" "code" "I") (List.mem_cons_of_mem _ (gIn k_666 (by decide +kernel)))) (fun _ h9 => h9) rfl (by decide +kernel) rfl rfl (Nat.le_of_ble_eq_true rfl) d_Md_into_83 (fun H locs hP hD hS => ?_)
              have hP : va_P D gCl (wMd t a (gSt σ 0 0 0)) H := hP
              have hD : va_D A (wMd t a (gSt σ 0 0 0)) := hD
              refine lv_aload_n hx hb d_Md_into_86 rfl (lv_at hl 1 rfl) ?_
              refine va_get (D := D) (ci := 7) (v := .int ((gSt σ 0 0 0) 0 0)) (C := R_Md) (T := F_Md) (N := 34) hx hb hts (fun w h => List.mem_cons_of_mem _ (i_Md w h)) hown hK.1 hP 0 (wMd_0 t a (gSt σ 0 0 0)) rfl 0 (by decide) (hts (.fieldLink R_Md 93 "FlatBoxesModel" "code" "I") (List.mem_cons_of_mem _ (gIn k_666 (by decide +kernel)))) (fun _ h9 => h9) rfl d_Md_into_87 ?_
              refine lv_topi (fun v_37 e_37 => ?_)
              obtain rfl : 0 = v_37 := (e_37.trans (rfl)).symm
              refine lv_if_le (tgt := 95) hx hb d_Md_into_90 (by decide) (fun c_38 => ?_) (fun c_38 => ?_)
              · 
                refine lv_bipush (v := 6) hx hb d_Md_into_95 (by decide) ?_
                refine lv_iload_n hx hb d_Md_into_97 rfl (lv_at hl 2 rfl) ?_
                refine lv_imul hx hb d_Md_into_98 ?_
                refine lv_topi (fun v_39 e_39 => ?_)
                obtain rfl : nI (6 * b) = v_39 := (e_39.trans (gMul6 b)).symm
                refine lv_aload_n hx hb d_Md_into_99 rfl (lv_at hl 1 rfl) ?_
                refine va_get (D := D) (ci := 7) (v := .ref (a 30)) (C := R_Md) (T := F_Md) (N := 34) hx hb hts (fun w h => List.mem_cons_of_mem _ (i_Md w h)) hown hK.1 hP 0 (wMd_0 t a (gSt σ 0 0 0)) rfl 30 (by decide) (hts (.fieldLink R_Md 77 "FlatBoxesModel" "kindCounts" "[I") (List.mem_cons_of_mem _ (gIn k_696 (by decide +kernel)))) (fun _ h9 => h9) rfl d_Md_into_100 ?_
                refine lv_iload_n hx hb d_Md_into_103 rfl (lv_at hl 2 rfl) ?_
                refine g_iald hx hb hK.1 hP 23 0 (wMd_30 t a (gSt σ 0 0 0)) rfl b (rfl) (by omega) (by decide) d_Md_into_104 ?_
                refine lv_topi (fun v_40 e_40 => ?_)
                obtain rfl : nI (kc b) = v_40 := (e_40.trans ((hkc b (by omega)).1)).symm
                refine lv_iadd hx hb d_Md_into_105 ?_
                refine lv_topi (fun v_41 e_41 => ?_)
                obtain rfl : nI (6 * b + kc b) = v_41 := (e_41.trans (nI_add _ _)).symm
                refine lv_istore (lv' := [(6, .int (nI (6 * b + kc b))), (5, .int 1), (0, .ref (a 0)), (1, .int (nI b)), (2, .int mn), (3, .int ec), (4, .int sp)]) hx hb d_Md_into_106 hl (by decide) rfl (fun ls hl => ?_)
                refine lv_aload_n hx hb d_Md_into_108 rfl (lv_at hl 2 rfl) ?_
                refine va_get (D := D) (ci := 7) (v := .ref (a 31)) (C := R_Md) (T := F_Md) (N := 34) hx hb hts (fun w h => List.mem_cons_of_mem _ (i_Md w h)) hown hK.1 hP 0 (wMd_0 t a (gSt σ 0 0 0)) rfl 31 (by decide) (hts (.fieldLink R_Md 80 "FlatBoxesModel" "manies" "[I") (List.mem_cons_of_mem _ (gIn k_697 (by decide +kernel)))) (fun _ h9 => h9) rfl d_Md_into_109 ?_
                refine lv_iload hx hb d_Md_into_112 (lv_at hl 0 rfl) ?_
                refine lv_iload_n hx hb d_Md_into_114 rfl (lv_at hl 4 rfl) ?_
                refine g_iast hx hb hK.1 hP hD hS 24 0 (wMd_31 t a (gSt σ 0 0 0)) rfl (6 * b + kc b) (rfl) (by omega) (by decide) (w' := wMd t a (gSt (gSt σ 0 0 0) 31 (6 * b + kc b) mn)) (sMd_31 t a (gSt σ 0 0 0) (6 * b + kc b) mn) d_Md_into_115 (fun H locs hP hD hS => ?_)
                refine lv_aload_n hx hb d_Md_into_116 rfl (lv_at hl 2 rfl) ?_
                refine va_get (D := D) (ci := 7) (v := .ref (a 32)) (C := R_Md) (T := F_Md) (N := 34) hx hb hts (fun w h => List.mem_cons_of_mem _ (i_Md w h)) hown hK.1 hP 0 (wMd_0 t a (gSt (gSt σ 0 0 0) 31 (6 * b + kc b) mn)) rfl 32 (by decide) (hts (.fieldLink R_Md 83 "FlatBoxesModel" "eaches" "[I") (List.mem_cons_of_mem _ (gIn k_698 (by decide +kernel)))) (fun _ h9 => h9) rfl d_Md_into_117 ?_
                refine lv_iload hx hb d_Md_into_120 (lv_at hl 0 rfl) ?_
                refine lv_iload_n hx hb d_Md_into_122 rfl (lv_at hl 5 rfl) ?_
                refine g_iast hx hb hK.1 hP hD hS 25 0 (wMd_32 t a (gSt (gSt σ 0 0 0) 31 (6 * b + kc b) mn)) rfl (6 * b + kc b) (rfl) (by omega) (by decide) (w' := wMd t a (gSt (gSt (gSt σ 0 0 0) 31 (6 * b + kc b) mn) 32 (6 * b + kc b) ec)) (sMd_32 t a (gSt (gSt σ 0 0 0) 31 (6 * b + kc b) mn) (6 * b + kc b) ec) d_Md_into_123 (fun H locs hP hD hS => ?_)
                refine lv_aload_n hx hb d_Md_into_124 rfl (lv_at hl 2 rfl) ?_
                refine va_get (D := D) (ci := 7) (v := .ref (a 33)) (C := R_Md) (T := F_Md) (N := 34) hx hb hts (fun w h => List.mem_cons_of_mem _ (i_Md w h)) hown hK.1 hP 0 (wMd_0 t a (gSt (gSt (gSt σ 0 0 0) 31 (6 * b + kc b) mn) 32 (6 * b + kc b) ec)) rfl 33 (by decide) (hts (.fieldLink R_Md 86 "FlatBoxesModel" "spreads" "[I") (List.mem_cons_of_mem _ (gIn k_699 (by decide +kernel)))) (fun _ h9 => h9) rfl d_Md_into_125 ?_
                refine lv_iload hx hb d_Md_into_128 (lv_at hl 0 rfl) ?_
                refine lv_iload hx hb d_Md_into_130 (lv_at hl 6 rfl) ?_
                refine g_iast hx hb hK.1 hP hD hS 26 0 (wMd_33 t a (gSt (gSt (gSt σ 0 0 0) 31 (6 * b + kc b) mn) 32 (6 * b + kc b) ec)) rfl (6 * b + kc b) (rfl) (by omega) (by decide) (w' := wMd t a (gSt (gSt (gSt (gSt σ 0 0 0) 31 (6 * b + kc b) mn) 32 (6 * b + kc b) ec) 33 (6 * b + kc b) sp)) (sMd_33 t a (gSt (gSt (gSt σ 0 0 0) 31 (6 * b + kc b) mn) 32 (6 * b + kc b) ec) (6 * b + kc b) sp) d_Md_into_132 (fun H locs hP hD hS => ?_)
                refine lv_aload_n hx hb d_Md_into_133 rfl (lv_at hl 2 rfl) ?_
                refine va_get (D := D) (ci := 7) (v := .ref (a 30)) (C := R_Md) (T := F_Md) (N := 34) hx hb hts (fun w h => List.mem_cons_of_mem _ (i_Md w h)) hown hK.1 hP 0 (wMd_0 t a (gSt (gSt (gSt (gSt σ 0 0 0) 31 (6 * b + kc b) mn) 32 (6 * b + kc b) ec) 33 (6 * b + kc b) sp)) rfl 30 (by decide) (hts (.fieldLink R_Md 77 "FlatBoxesModel" "kindCounts" "[I") (List.mem_cons_of_mem _ (gIn k_696 (by decide +kernel)))) (fun _ h9 => h9) rfl d_Md_into_134 ?_
                refine lv_iload_n hx hb d_Md_into_137 rfl (lv_at hl 3 rfl) ?_
                refine lv_dup2_11 hx hb d_Md_into_138 rfl rfl ?_
                refine g_iald hx hb hK.1 hP 23 0 (wMd_30 t a (gSt (gSt (gSt (gSt σ 0 0 0) 31 (6 * b + kc b) mn) 32 (6 * b + kc b) ec) 33 (6 * b + kc b) sp)) rfl b (rfl) (by omega) (by decide) d_Md_into_139 ?_
                refine lv_topi (fun v_42 e_42 => ?_)
                obtain rfl : nI (kc b) = v_42 := (e_42.trans ((hkc b (by omega)).1)).symm
                refine lv_iconst (v := 1) hx hb d_Md_into_140 (by decide) ?_
                refine lv_iadd hx hb d_Md_into_141 ?_
                refine lv_topi (fun v_43 e_43 => ?_)
                obtain rfl : nI (kc b + 1) = v_43 := (e_43.trans (nI_1 _)).symm
                refine g_iast hx hb hK.1 hP hD hS 23 0 (wMd_30 t a (gSt (gSt (gSt (gSt σ 0 0 0) 31 (6 * b + kc b) mn) 32 (6 * b + kc b) ec) 33 (6 * b + kc b) sp)) rfl b (rfl) (by omega) (by decide) (w' := wMd t a (gSt (gSt (gSt (gSt (gSt σ 0 0 0) 31 (6 * b + kc b) mn) 32 (6 * b + kc b) ec) 33 (6 * b + kc b) sp) 30 b (nI (kc b + 1)))) (sMd_30 t a (gSt (gSt (gSt (gSt σ 0 0 0) 31 (6 * b + kc b) mn) 32 (6 * b + kc b) ec) 33 (6 * b + kc b) sp) b (nI (kc b + 1))) d_Md_into_142 (fun H locs hP hD hS => ?_)
                refine lv_aload_n hx hb d_Md_into_143 rfl (lv_at hl 2 rfl) ?_
                refine va_get (D := D) (ci := 7) (v := .ref (a 30)) (C := R_Md) (T := F_Md) (N := 34) hx hb hts (fun w h => List.mem_cons_of_mem _ (i_Md w h)) hown hK.1 hP 0 (wMd_0 t a (gSt (gSt (gSt (gSt (gSt σ 0 0 0) 31 (6 * b + kc b) mn) 32 (6 * b + kc b) ec) 33 (6 * b + kc b) sp) 30 b (nI (kc b + 1)))) rfl 30 (by decide) (hts (.fieldLink R_Md 77 "FlatBoxesModel" "kindCounts" "[I") (List.mem_cons_of_mem _ (gIn k_696 (by decide +kernel)))) (fun _ h9 => h9) rfl d_Md_into_144 ?_
                refine lv_iload_n hx hb d_Md_into_147 rfl (lv_at hl 3 rfl) ?_
                refine g_iald hx hb hK.1 hP 23 0 (wMd_30 t a (gSt (gSt (gSt (gSt (gSt σ 0 0 0) 31 (6 * b + kc b) mn) 32 (6 * b + kc b) ec) 33 (6 * b + kc b) sp) 30 b (nI (kc b + 1)))) rfl b (rfl) (by omega) (by decide) d_Md_into_148 ?_
                refine lv_topi (fun v_44 e_44 => ?_)
                obtain rfl : nI (kc b + 1) = v_44 := (e_44.trans (pk_us)).symm
                exact W.iret (v := nI (kc b + 1)) hx hb hr (fun U hU hW => ⟨⟨nI (kc b + 1), gSt (gSt (gSt (gSt (gSt σ 0 0 0) 31 (6 * b + kc b) mn) 32 (6 * b + kc b) ec) 33 (6 * b + kc b) sp) 30 b (nI (kc b + 1)), rfl, by exact ⟨by simp [mIntoR, mIntoC, mIntoG, nI_clamp (show b < 2 ^ 31 by omega), c_2, c_12, c_22, c_33, c_34, c_36, h_36, c_38], by simp [mIntoU, mIntoC, mIntoG, nI_clamp (show b < 2 ^ 31 by omega), c_2, c_12, c_22, c_33, c_34, c_36, h_36, c_38]⟩, by rw [hU]; exact hP, hD⟩, hS.F hU⟩) hS.2.2 d_Md_into_149
              · 
                exact absurd c_38 (by decide)
            · 
              have h_36 : kc b = 6 := (nI_eq (a := kc b) (b := 6) (by omega) (by omega)).mp c_36
              refine lv_iconst (v := 3) hx hb d_Md_into_78 (by decide) ?_
              refine lv_goto (tgt := 83) hx hb d_Md_into_79 (by decide) ?_
              refine va_put (D := D) (ci := 7) (v := .int 3) (ty := .int) (C := R_Md) (T := F_Md) (N := 34) hx hb hts (fun w h => List.mem_cons_of_mem _ (i_Md w h)) t_Md t_Md_ok n_Md hown hK.1 hP hD hS 0 (wMd_0 t a σ) rfl 0 (by decide) (hts (.fieldLink R_Md 93 "FlatBoxesModel" "code" "I") (List.mem_cons_of_mem _ (gIn k_666 (by decide +kernel)))) (fun _ h9 => h9) rfl (by decide +kernel) rfl rfl (Nat.le_of_ble_eq_true rfl) d_Md_into_83 (fun H locs hP hD hS => ?_)
              have hP : va_P D gCl (wMd t a (gSt σ 0 0 3)) H := hP
              have hD : va_D A (wMd t a (gSt σ 0 0 3)) := hD
              refine lv_aload_n hx hb d_Md_into_86 rfl (lv_at hl 1 rfl) ?_
              refine va_get (D := D) (ci := 7) (v := .int ((gSt σ 0 0 3) 0 0)) (C := R_Md) (T := F_Md) (N := 34) hx hb hts (fun w h => List.mem_cons_of_mem _ (i_Md w h)) hown hK.1 hP 0 (wMd_0 t a (gSt σ 0 0 3)) rfl 0 (by decide) (hts (.fieldLink R_Md 93 "FlatBoxesModel" "code" "I") (List.mem_cons_of_mem _ (gIn k_666 (by decide +kernel)))) (fun _ h9 => h9) rfl d_Md_into_87 ?_
              refine lv_topi (fun v_45 e_45 => ?_)
              obtain rfl : 3 = v_45 := (e_45.trans (rfl)).symm
              refine lv_if_le (tgt := 95) hx hb d_Md_into_90 (by decide) (fun c_46 => ?_) (fun c_46 => ?_)
              · 
                exact absurd c_46 (by decide)
              · 
                refine lv_iconst (v := 0) hx hb d_Md_into_93 (by decide) ?_
                exact W.iret (v := 0) hx hb hr (fun U hU hW => ⟨⟨0, gSt σ 0 0 3, rfl, by exact ⟨by simp [mIntoR, mIntoC, mIntoG, nI_clamp (show b < 2 ^ 31 by omega), c_2, c_12, c_22, c_33, c_34, c_36, h_36, c_46], by simp [mIntoU, mIntoC, mIntoG, nI_clamp (show b < 2 ^ 31 by omega), c_2, c_12, c_22, c_33, c_34, c_36, h_36, c_46]⟩, by rw [hU]; exact hP, hD⟩, hS.F hU⟩) hS.2.2 d_Md_into_94
          · 
            exact absurd c_34 (by decide)
        · 
          refine lv_iconst (v := 1) hx hb d_Md_into_54 (by decide) ?_
          refine lv_goto (tgt := 83) hx hb d_Md_into_55 (by decide) ?_
          refine va_put (D := D) (ci := 7) (v := .int 1) (ty := .int) (C := R_Md) (T := F_Md) (N := 34) hx hb hts (fun w h => List.mem_cons_of_mem _ (i_Md w h)) t_Md t_Md_ok n_Md hown hK.1 hP hD hS 0 (wMd_0 t a σ) rfl 0 (by decide) (hts (.fieldLink R_Md 93 "FlatBoxesModel" "code" "I") (List.mem_cons_of_mem _ (gIn k_666 (by decide +kernel)))) (fun _ h9 => h9) rfl (by decide +kernel) rfl rfl (Nat.le_of_ble_eq_true rfl) d_Md_into_83 (fun H locs hP hD hS => ?_)
          have hP : va_P D gCl (wMd t a (gSt σ 0 0 1)) H := hP
          have hD : va_D A (wMd t a (gSt σ 0 0 1)) := hD
          refine lv_aload_n hx hb d_Md_into_86 rfl (lv_at hl 1 rfl) ?_
          refine va_get (D := D) (ci := 7) (v := .int ((gSt σ 0 0 1) 0 0)) (C := R_Md) (T := F_Md) (N := 34) hx hb hts (fun w h => List.mem_cons_of_mem _ (i_Md w h)) hown hK.1 hP 0 (wMd_0 t a (gSt σ 0 0 1)) rfl 0 (by decide) (hts (.fieldLink R_Md 93 "FlatBoxesModel" "code" "I") (List.mem_cons_of_mem _ (gIn k_666 (by decide +kernel)))) (fun _ h9 => h9) rfl d_Md_into_87 ?_
          refine lv_topi (fun v_47 e_47 => ?_)
          obtain rfl : 1 = v_47 := (e_47.trans (rfl)).symm
          refine lv_if_le (tgt := 95) hx hb d_Md_into_90 (by decide) (fun c_48 => ?_) (fun c_48 => ?_)
          · 
            exact absurd c_48 (by decide)
          · 
            refine lv_iconst (v := 0) hx hb d_Md_into_93 (by decide) ?_
            exact W.iret (v := 0) hx hb hr (fun U hU hW => ⟨⟨0, gSt σ 0 0 1, rfl, by exact ⟨by simp [mIntoR, mIntoC, mIntoG, c_2, c_12, c_22, c_33, c_48], by simp [mIntoU, mIntoC, mIntoG, c_2, c_12, c_22, c_33, c_48]⟩, by rw [hU]; exact hP, hD⟩, hS.F hU⟩) hS.2.2 d_Md_into_94
end
section
def mCntC (nb : Nat) (bg wt : Int32) : Int32 := if mIn bg 0 (nI nb - 1) = 0 then 1 else if 0 ≤ wt then 0 else 2
def mCntV (σ : Nat → Nat → Int32) (b K : Nat) (wt : Int32) : Int32 := if mWithin wt (mS1 σ 32 b K) (mS1 σ 33 b K) = 0 then 0 else if mUns σ wt (mS1 σ 32 b K) (mS1 σ 33 b K) b K = 0 then 1 else 2
def mCntR (σ : Nat → Nat → Int32) (nb : Nat) (kc : Nat → Nat) (bg wt : Int32) : Int32 := if mCntC nb bg wt = 0 then mCntV σ bg.toNatClampNeg (kc bg.toNatClampNeg) wt else 0
theorem mSets_fix (σ : Nat → Nat → Int32) (rho : Nat → Nat) {i : Nat} (h : i ≠ 28) : ∀ q, (mSets σ rho q).1 i = σ i
  | 0 => mZero_fix σ h 8
  | q + 1 => (gSt_ne _ _ _ _ h).trans (mSets_fix σ rho h q)
def mBoxU (σ : Nat → Nat → Int32) (rho ord sx cx : Nat → Nat) (np b : Nat) : Nat → Nat → Int32 := (mPk (mSets σ rho np).1 ord (nI (sx b)) (cx b) np).1
theorem mBoxU_fix (σ : Nat → Nat → Int32) (rho ord sx cx : Nat → Nat) (np b : Nat) {i : Nat} (h : i < 15 ∨ 22 < i) (h2 : i ≠ 28) : mBoxU σ rho ord sx cx np b i = σ i := (mPk_fix _ _ _ _ h _).trans (mSets_fix σ rho h2 np)

theorem gg_Md_167 (w0 : Cond) : GoodIn (w0 :: gBig) (wsS R_Md 167 y_Md_isWithin (.code y_Md_isWithin b_Md_isWithin 3 (some .boolean) :: gBig)) := gGoodS (gIn k_877 (by decide +kernel)) (gIn k_878 (by decide +kernel)) (gIn k_9 (by decide +kernel)) (gIn k_879 (by decide +kernel))
theorem gg_Md_144 (w0 : Cond) : GoodIn (w0 :: gBig) (wsV R_Md 144 R_Md y_Md_setsOf (.code y_Md_setsOf b_Md_setsOf 4 (some .int) :: gBig)) := gGoodV (gIn k_825 (by decide +kernel)) (gIn k_827 (by decide +kernel)) (gInP (List.mem_of_getElem? (i := 22) (by decide +kernel)) (by decide +kernel)) (gIn k_9 (by decide +kernel)) (gIn k_828 (by decide +kernel))
set_option maxHeartbeats 4000000 in
set_option maxRecDepth 100000 in
theorem c_Md_counted (l : Launch) (D : va_G) (t : Nat → ClassId) (a : Nat → Nat) (σ : Nat → Nat → Int32) (bg wt : Int32) (nb : Nat) (kc : Nat → Nat) (hB : σ 29 0 = nI nb) (hB4 : nb ≤ 4) (hkc : ∀ b, b < nb → σ 30 b = nI (kc b) ∧ kc b ≤ 6) : gMi l D t y_Md_counted b_Md_counted 7 (some .int) 1 [.ref (a 0), .int bg, .int wt] (wMd t a σ) (wMd t a) (fun r u => r = mCntR σ nb kc bg wt ∧ u = gSt σ 0 0 (mCntC nb bg wt)) := by
  intro A
  refine Met.ofW (cc := b_Md_counted) (maxL := 7) (ret := (some .int)) (by decide) rfl ?_
  intro p e s m args below meth c s₁ B hml hv
  obtain ⟨rfl, hK, hP, hD⟩ := hv
  have hx := B.exec
  have hb := B.bytes
  have hr := B.returns
  have hts := atoms_spec (ws := .code y_Md_counted b_Md_counted 7 (some .int) :: gBig) B.pre
  have hown : s.vm.findClass R_Md = some m.cls := findClass_of_methodNamed B.named
  have hlocks := B.notSynchronized
  have hS : va_S A s.heap s.heap [] := va_S.rf
  have hl := lv_entry ([.ref (a 0), .int bg, .int wt]) (n := 7) (Nat.le_of_ble_eq_true rfl)
  rw [lg_entry_eq]
  generalize (lg_sl ([.ref (a 0), .int bg, .int wt]) ++ List.replicate (7 - (lg_sl ([.ref (a 0), .int bg, .int wt])).length) Slot.unset).toArray = ls at hl ⊢
  have hl : lv_has ls 7 [(0, .ref (a 0)), (1, .int bg), (2, .int wt)] := hl
  show gGo l p e s m below meth c D t A 1 [.ref (a 0), .int bg, .int wt] (wMd t a) (fun r u => r = mCntR σ nb kc bg wt ∧ u = gSt σ 0 0 (mCntC nb bg wt)) s.heap [] (F0 m 0 ls [])
  have cut_132 : ∀ (n : Nat) (b : Nat) (j : Nat) (sm : Int32) (sr : Int32) (un : Int32) (H : Heap) (locs : List Loc) (ls : Array Slot), (b < nb) → (j ≤ kc b) → (kc b ≤ 6) → (kc b + 1 ≤ j + n) → (un = mUns σ wt sm sr b j) → (bg = nI b) → (mCntC nb bg wt = 0) → (sm = mS1 σ 32 b (kc b)) → (sr = mS1 σ 33 b (kc b)) → (¬ mWithin wt sm sr = 0) → va_P D gCl (wMd t a (gSt σ 0 0 0)) H → va_D A (wMd t a (gSt σ 0 0 0)) → va_S A s.heap H locs → lv_has ls 7 [(0, .ref (a 0)), (1, .int (nI b)), (2, .int wt), (3, .int sm), (4, .int sr), (5, .int un), (6, .int (nI (6 * b + j)))] → gGo l p e s m below meth c D t A 1 [.ref (a 0), .int bg, .int wt] (wMd t a) (fun r u => r = mCntR σ nb kc bg wt ∧ u = gSt σ 0 0 (mCntC nb bg wt)) H locs (F0 m 132 ls []) := by
    intro n
    induction n with
    | zero =>
      intro b j sm sr un H locs ls hbn hj hk6 hf hun hbg hcd hs1 hs2 hw hP hD hS hl
      exact absurd hf (by omega)
    | succ n ih =>
      intro b j sm sr un H locs ls hbn hj hk6 hf hun hbg hcd hs1 hs2 hw hP hD hS hl
      refine lv_iload hx hb d_Md_counted_132 (lv_at hl 6 rfl) ?_
      refine lv_bipush (v := 6) hx hb d_Md_counted_134 (by decide) ?_
      refine lv_iload_n hx hb d_Md_counted_136 rfl (lv_at hl 1 rfl) ?_
      refine lv_imul hx hb d_Md_counted_137 ?_
      refine lv_topi (fun v_1 e_1 => ?_)
      obtain rfl : nI (6 * b) = v_1 := (e_1.trans (gMul6 b)).symm
      refine lv_aload_n hx hb d_Md_counted_138 rfl (lv_at hl 0 rfl) ?_
      refine va_get (D := D) (ci := 7) (v := .ref (a 30)) (C := R_Md) (T := F_Md) (N := 34) hx hb hts (fun w h => List.mem_cons_of_mem _ (i_Md w h)) hown hK.1 hP 0 (wMd_0 t a (gSt σ 0 0 0)) rfl 30 (by decide) (hts (.fieldLink R_Md 77 "FlatBoxesModel" "kindCounts" "[I") (List.mem_cons_of_mem _ (gIn k_696 (by decide +kernel)))) (fun _ h9 => h9) rfl d_Md_counted_139 ?_
      refine lv_iload_n hx hb d_Md_counted_142 rfl (lv_at hl 1 rfl) ?_
      refine g_iald hx hb hK.1 hP 23 0 (wMd_30 t a (gSt σ 0 0 0)) rfl b (rfl) (by omega) (by decide) d_Md_counted_143 ?_
      refine lv_topi (fun v_2 e_2 => ?_)
      obtain rfl : nI (kc b) = v_2 := (e_2.trans ((hkc b (by omega)).1)).symm
      refine lv_iadd hx hb d_Md_counted_144 ?_
      refine lv_topi (fun v_3 e_3 => ?_)
      obtain rfl : nI (6 * b + kc b) = v_3 := (e_3.trans (nI_add _ _)).symm
      refine lv_icmp_ge (tgt := 228) hx hb d_Md_counted_145 (by decide) (fun c_4 => ?_) (fun c_4 => ?_)
      · 
        have h_4 : 6 * b + kc b ≤ 6 * b + j := (nI_leI (a := 6 * b + kc b) (b := 6 * b + j) (by omega) (by omega)).mp c_4
        refine lv_iload hx hb d_Md_counted_228 (lv_at hl 5 rfl) ?_
        refine lv_if_eq (tgt := 237) hx hb d_Md_counted_230 (by decide) (fun c_5 => ?_) (fun c_5 => ?_)
        · 
          refine lv_iconst (v := 1) hx hb d_Md_counted_237 (by decide) ?_
          exact W.iret (v := 1) hx hb hr (fun U hU hW => ⟨⟨1, gSt σ 0 0 0, rfl, by obtain rfl : j = kc b := (by omega); subst hun hs1 hs2; exact ⟨by rw [mCntR, if_pos hcd, hbg, nI_clamp (by omega), mCntV, if_neg hw, if_pos (by assumption)], by rw [hcd]⟩, by rw [hU]; exact hP, hD⟩, hS.F hU⟩) hS.2.2 d_Md_counted_238
        · 
          refine lv_iconst (v := 2) hx hb d_Md_counted_233 (by decide) ?_
          refine lv_goto (tgt := 238) hx hb d_Md_counted_234 (by decide) ?_
          exact W.iret (v := 2) hx hb hr (fun U hU hW => ⟨⟨2, gSt σ 0 0 0, rfl, by obtain rfl : j = kc b := (by omega); subst hun hs1 hs2; exact ⟨by rw [mCntR, if_pos hcd, hbg, nI_clamp (by omega), mCntV, if_neg hw, if_neg (by assumption)], by rw [hcd]⟩, by rw [hU]; exact hP, hD⟩, hS.F hU⟩) hS.2.2 d_Md_counted_238
      · 
        have h_4 : ¬ 6 * b + kc b ≤ 6 * b + j := fun q9 => c_4 ((nI_leI (a := 6 * b + kc b) (b := 6 * b + j) (by omega) (by omega)).mpr q9)
        refine lv_iload hx hb d_Md_counted_148 (lv_at hl 5 rfl) ?_
        refine lv_if_ne (tgt := 215) hx hb d_Md_counted_150 (by decide) (fun c_6 => ?_) (fun c_6 => ?_)
        · 
          refine lv_iconst (v := 1) hx hb d_Md_counted_215 (by decide) ?_
          refine lv_goto (tgt := 220) hx hb d_Md_counted_216 (by decide) ?_
          refine lv_istore (lv' := [(5, .int 1), (0, .ref (a 0)), (1, .int (nI b)), (2, .int wt), (3, .int sm), (4, .int sr), (6, .int (nI (6 * b + j)))]) hx hb d_Md_counted_220 hl (by decide) rfl (fun ls hl => ?_)
          refine lv_iinc (v := nI (6 * b + j + 1)) (lv' := [(6, .int (nI (6 * b + j + 1))), (5, .int 1), (0, .ref (a 0)), (1, .int (nI b)), (2, .int wt), (3, .int sm), (4, .int sr)]) hx hb d_Md_counted_222 hl (k := 6) rfl (nI_1 (6 * b + j)) (by decide) rfl (fun ls hl => ?_)
          refine lv_goto (tgt := 132) hx hb d_Md_counted_225 (by decide) ?_
          exact ih b (j + 1) sm sr 1 _ _ _ (by omega) (by omega) (by omega) (by omega) (by first | (subst hun; simp [mUns, c_4, h_4, c_6]; done) | (subst hun; simp [mUns, c_4, h_4, c_6]; exact gb1 (mWithin01 _ _ _) (by assumption))) (hbg) (hcd) (hs1) (hs2) (hw) hP hD hS (lv_sub hl [2, 3, 4, 5, 6, 1, 0] rfl)
        · 
          refine lv_aload_n hx hb d_Md_counted_153 rfl (lv_at hl 0 rfl) ?_
          refine va_get (D := D) (ci := 7) (v := .ref (a 31)) (C := R_Md) (T := F_Md) (N := 34) hx hb hts (fun w h => List.mem_cons_of_mem _ (i_Md w h)) hown hK.1 hP 0 (wMd_0 t a (gSt σ 0 0 0)) rfl 31 (by decide) (hts (.fieldLink R_Md 80 "FlatBoxesModel" "manies" "[I") (List.mem_cons_of_mem _ (gIn k_697 (by decide +kernel)))) (fun _ h9 => h9) rfl d_Md_counted_154 ?_
          refine lv_iload hx hb d_Md_counted_157 (lv_at hl 6 rfl) ?_
          refine g_iald hx hb hK.1 hP 24 0 (wMd_31 t a (gSt σ 0 0 0)) rfl (6 * b + j) (rfl) (by omega) (by decide) d_Md_counted_159 ?_
          refine lv_topi (fun v_7 e_7 => ?_)
          obtain rfl : σ 31 (6 * b + j) = v_7 := (e_7.trans (rfl)).symm
          refine lv_if_le (tgt := 189) hx hb d_Md_counted_160 (by decide) (fun c_8 => ?_) (fun c_8 => ?_)
          · 
            refine lv_iload_n hx hb d_Md_counted_189 rfl (lv_at hl 2 rfl) ?_
            refine lv_iload_n hx hb d_Md_counted_190 rfl (lv_at hl 3 rfl) ?_
            refine lv_aload_n hx hb d_Md_counted_191 rfl (lv_at hl 0 rfl) ?_
            refine va_get (D := D) (ci := 7) (v := .ref (a 32)) (C := R_Md) (T := F_Md) (N := 34) hx hb hts (fun w h => List.mem_cons_of_mem _ (i_Md w h)) hown hK.1 hP 0 (wMd_0 t a (gSt σ 0 0 0)) rfl 32 (by decide) (hts (.fieldLink R_Md 83 "FlatBoxesModel" "eaches" "[I") (List.mem_cons_of_mem _ (gIn k_698 (by decide +kernel)))) (fun _ h9 => h9) rfl d_Md_counted_192 ?_
            refine lv_iload hx hb d_Md_counted_195 (lv_at hl 6 rfl) ?_
            refine g_iald hx hb hK.1 hP 25 0 (wMd_32 t a (gSt σ 0 0 0)) rfl (6 * b + j) (rfl) (by omega) (by decide) d_Md_counted_197 ?_
            refine lv_topi (fun v_9 e_9 => ?_)
            obtain rfl : σ 32 (6 * b + j) = v_9 := (e_9.trans (rfl)).symm
            refine lv_iadd hx hb d_Md_counted_198 ?_
            refine lv_iload hx hb d_Md_counted_199 (lv_at hl 4 rfl) ?_
            refine lv_aload_n hx hb d_Md_counted_201 rfl (lv_at hl 0 rfl) ?_
            refine va_get (D := D) (ci := 7) (v := .ref (a 33)) (C := R_Md) (T := F_Md) (N := 34) hx hb hts (fun w h => List.mem_cons_of_mem _ (i_Md w h)) hown hK.1 hP 0 (wMd_0 t a (gSt σ 0 0 0)) rfl 33 (by decide) (hts (.fieldLink R_Md 86 "FlatBoxesModel" "spreads" "[I") (List.mem_cons_of_mem _ (gIn k_699 (by decide +kernel)))) (fun _ h9 => h9) rfl d_Md_counted_202 ?_
            refine lv_iload hx hb d_Md_counted_205 (lv_at hl 6 rfl) ?_
            refine g_iald hx hb hK.1 hP 26 0 (wMd_33 t a (gSt σ 0 0 0)) rfl (6 * b + j) (rfl) (by omega) (by decide) d_Md_counted_207 ?_
            refine lv_topi (fun v_10 e_10 => ?_)
            obtain rfl : σ 33 (6 * b + j) = v_10 := (e_10.trans (rfl)).symm
            refine lv_iadd hx hb d_Md_counted_208 ?_
            refine g_si (k := 3) (As := [.int wt, .int (sm + (σ 32 (6 * b + j))), .int (sr + (σ 33 (6 * b + j)))]) (rest := []) (own := R_Md) (index := 167) ⟨hx, hb, hml, hown, hts⟩ (c_Md_isWithin l D t a (gSt σ 0 0 0) wt (sm + (σ 32 (6 * b + j))) (sr + (σ 33 (6 * b + j)))) (gg_Md_167 _) (by decide +kernel) ⟨Nat.le_of_ble_eq_true rfl, Nat.le_of_ble_eq_true rfl⟩ rfl hK hP hD hS hl.1 rfl (Nat.le_of_ble_eq_true rfl) ⟨Nat.zero_le _, Nat.zero_le _⟩ d_Md_counted_209 (fun r_11 u_11 H locs q_11 hP hD hS => ?_)
            obtain ⟨rfl, hu_11⟩ := q_11
            rw [hu_11] at hP hD
            refine lv_if_eq (tgt := 219) hx hb d_Md_counted_212 (by decide) (fun c_12 => ?_) (fun c_12 => ?_)
            · 
              refine lv_iconst (v := 0) hx hb d_Md_counted_219 (by decide) ?_
              refine lv_istore (lv' := [(5, .int 0), (0, .ref (a 0)), (1, .int (nI b)), (2, .int wt), (3, .int sm), (4, .int sr), (6, .int (nI (6 * b + j)))]) hx hb d_Md_counted_220 hl (by decide) rfl (fun ls hl => ?_)
              refine lv_iinc (v := nI (6 * b + j + 1)) (lv' := [(6, .int (nI (6 * b + j + 1))), (5, .int 0), (0, .ref (a 0)), (1, .int (nI b)), (2, .int wt), (3, .int sm), (4, .int sr)]) hx hb d_Md_counted_222 hl (k := 6) rfl (nI_1 (6 * b + j)) (by decide) rfl (fun ls hl => ?_)
              refine lv_goto (tgt := 132) hx hb d_Md_counted_225 (by decide) ?_
              exact ih b (j + 1) sm sr 0 _ _ _ (by omega) (by omega) (by omega) (by omega) (by first | (subst hun; simp [mUns, c_4, h_4, c_6, c_8, c_12]; done) | (subst hun; simp [mUns, c_4, h_4, c_6, c_8, c_12]; exact gb1 (mWithin01 _ _ _) (by assumption))) (hbg) (hcd) (hs1) (hs2) (hw) hP hD hS (lv_sub hl [2, 3, 4, 5, 6, 1, 0] rfl)
            · 
              refine lv_iconst (v := 1) hx hb d_Md_counted_215 (by decide) ?_
              refine lv_goto (tgt := 220) hx hb d_Md_counted_216 (by decide) ?_
              refine lv_istore (lv' := [(5, .int 1), (0, .ref (a 0)), (1, .int (nI b)), (2, .int wt), (3, .int sm), (4, .int sr), (6, .int (nI (6 * b + j)))]) hx hb d_Md_counted_220 hl (by decide) rfl (fun ls hl => ?_)
              refine lv_iinc (v := nI (6 * b + j + 1)) (lv' := [(6, .int (nI (6 * b + j + 1))), (5, .int 1), (0, .ref (a 0)), (1, .int (nI b)), (2, .int wt), (3, .int sm), (4, .int sr)]) hx hb d_Md_counted_222 hl (k := 6) rfl (nI_1 (6 * b + j)) (by decide) rfl (fun ls hl => ?_)
              refine lv_goto (tgt := 132) hx hb d_Md_counted_225 (by decide) ?_
              exact ih b (j + 1) sm sr 1 _ _ _ (by omega) (by omega) (by omega) (by omega) (by first | (subst hun; simp [mUns, c_4, h_4, c_6, c_8, c_12]; done) | (subst hun; simp [mUns, c_4, h_4, c_6, c_8, c_12]; exact gb1 (mWithin01 _ _ _) (by assumption))) (hbg) (hcd) (hs1) (hs2) (hw) hP hD hS (lv_sub hl [2, 3, 4, 5, 6, 1, 0] rfl)
          · 
            refine lv_iload_n hx hb d_Md_counted_163 rfl (lv_at hl 2 rfl) ?_
            refine lv_iload_n hx hb d_Md_counted_164 rfl (lv_at hl 3 rfl) ?_
            refine lv_aload_n hx hb d_Md_counted_165 rfl (lv_at hl 0 rfl) ?_
            refine va_get (D := D) (ci := 7) (v := .ref (a 32)) (C := R_Md) (T := F_Md) (N := 34) hx hb hts (fun w h => List.mem_cons_of_mem _ (i_Md w h)) hown hK.1 hP 0 (wMd_0 t a (gSt σ 0 0 0)) rfl 32 (by decide) (hts (.fieldLink R_Md 83 "FlatBoxesModel" "eaches" "[I") (List.mem_cons_of_mem _ (gIn k_698 (by decide +kernel)))) (fun _ h9 => h9) rfl d_Md_counted_166 ?_
            refine lv_iload hx hb d_Md_counted_169 (lv_at hl 6 rfl) ?_
            refine g_iald hx hb hK.1 hP 25 0 (wMd_32 t a (gSt σ 0 0 0)) rfl (6 * b + j) (rfl) (by omega) (by decide) d_Md_counted_171 ?_
            refine lv_topi (fun v_13 e_13 => ?_)
            obtain rfl : σ 32 (6 * b + j) = v_13 := (e_13.trans (rfl)).symm
            refine lv_isub hx hb d_Md_counted_172 ?_
            refine lv_iload hx hb d_Md_counted_173 (lv_at hl 4 rfl) ?_
            refine lv_aload_n hx hb d_Md_counted_175 rfl (lv_at hl 0 rfl) ?_
            refine va_get (D := D) (ci := 7) (v := .ref (a 33)) (C := R_Md) (T := F_Md) (N := 34) hx hb hts (fun w h => List.mem_cons_of_mem _ (i_Md w h)) hown hK.1 hP 0 (wMd_0 t a (gSt σ 0 0 0)) rfl 33 (by decide) (hts (.fieldLink R_Md 86 "FlatBoxesModel" "spreads" "[I") (List.mem_cons_of_mem _ (gIn k_699 (by decide +kernel)))) (fun _ h9 => h9) rfl d_Md_counted_176 ?_
            refine lv_iload hx hb d_Md_counted_179 (lv_at hl 6 rfl) ?_
            refine g_iald hx hb hK.1 hP 26 0 (wMd_33 t a (gSt σ 0 0 0)) rfl (6 * b + j) (rfl) (by omega) (by decide) d_Md_counted_181 ?_
            refine lv_topi (fun v_14 e_14 => ?_)
            obtain rfl : σ 33 (6 * b + j) = v_14 := (e_14.trans (rfl)).symm
            refine lv_isub hx hb d_Md_counted_182 ?_
            refine g_si (k := 3) (As := [.int wt, .int (sm - (σ 32 (6 * b + j))), .int (sr - (σ 33 (6 * b + j)))]) (rest := []) (own := R_Md) (index := 167) ⟨hx, hb, hml, hown, hts⟩ (c_Md_isWithin l D t a (gSt σ 0 0 0) wt (sm - (σ 32 (6 * b + j))) (sr - (σ 33 (6 * b + j)))) (gg_Md_167 _) (by decide +kernel) ⟨Nat.le_of_ble_eq_true rfl, Nat.le_of_ble_eq_true rfl⟩ rfl hK hP hD hS hl.1 rfl (Nat.le_of_ble_eq_true rfl) ⟨Nat.zero_le _, Nat.zero_le _⟩ d_Md_counted_183 (fun r_15 u_15 H locs q_15 hP hD hS => ?_)
            obtain ⟨rfl, hu_15⟩ := q_15
            rw [hu_15] at hP hD
            refine lv_if_ne (tgt := 215) hx hb d_Md_counted_186 (by decide) (fun c_16 => ?_) (fun c_16 => ?_)
            · 
              refine lv_iconst (v := 1) hx hb d_Md_counted_215 (by decide) ?_
              refine lv_goto (tgt := 220) hx hb d_Md_counted_216 (by decide) ?_
              refine lv_istore (lv' := [(5, .int 1), (0, .ref (a 0)), (1, .int (nI b)), (2, .int wt), (3, .int sm), (4, .int sr), (6, .int (nI (6 * b + j)))]) hx hb d_Md_counted_220 hl (by decide) rfl (fun ls hl => ?_)
              refine lv_iinc (v := nI (6 * b + j + 1)) (lv' := [(6, .int (nI (6 * b + j + 1))), (5, .int 1), (0, .ref (a 0)), (1, .int (nI b)), (2, .int wt), (3, .int sm), (4, .int sr)]) hx hb d_Md_counted_222 hl (k := 6) rfl (nI_1 (6 * b + j)) (by decide) rfl (fun ls hl => ?_)
              refine lv_goto (tgt := 132) hx hb d_Md_counted_225 (by decide) ?_
              exact ih b (j + 1) sm sr 1 _ _ _ (by omega) (by omega) (by omega) (by omega) (by first | (subst hun; simp [mUns, c_4, h_4, c_6, c_8, c_16]; done) | (subst hun; simp [mUns, c_4, h_4, c_6, c_8, c_16]; exact gb1 (mWithin01 _ _ _) (by assumption))) (hbg) (hcd) (hs1) (hs2) (hw) hP hD hS (lv_sub hl [2, 3, 4, 5, 6, 1, 0] rfl)
            · 
              refine lv_iload_n hx hb d_Md_counted_189 rfl (lv_at hl 2 rfl) ?_
              refine lv_iload_n hx hb d_Md_counted_190 rfl (lv_at hl 3 rfl) ?_
              refine lv_aload_n hx hb d_Md_counted_191 rfl (lv_at hl 0 rfl) ?_
              refine va_get (D := D) (ci := 7) (v := .ref (a 32)) (C := R_Md) (T := F_Md) (N := 34) hx hb hts (fun w h => List.mem_cons_of_mem _ (i_Md w h)) hown hK.1 hP 0 (wMd_0 t a (gSt σ 0 0 0)) rfl 32 (by decide) (hts (.fieldLink R_Md 83 "FlatBoxesModel" "eaches" "[I") (List.mem_cons_of_mem _ (gIn k_698 (by decide +kernel)))) (fun _ h9 => h9) rfl d_Md_counted_192 ?_
              refine lv_iload hx hb d_Md_counted_195 (lv_at hl 6 rfl) ?_
              refine g_iald hx hb hK.1 hP 25 0 (wMd_32 t a (gSt σ 0 0 0)) rfl (6 * b + j) (rfl) (by omega) (by decide) d_Md_counted_197 ?_
              refine lv_topi (fun v_17 e_17 => ?_)
              obtain rfl : σ 32 (6 * b + j) = v_17 := (e_17.trans (rfl)).symm
              refine lv_iadd hx hb d_Md_counted_198 ?_
              refine lv_iload hx hb d_Md_counted_199 (lv_at hl 4 rfl) ?_
              refine lv_aload_n hx hb d_Md_counted_201 rfl (lv_at hl 0 rfl) ?_
              refine va_get (D := D) (ci := 7) (v := .ref (a 33)) (C := R_Md) (T := F_Md) (N := 34) hx hb hts (fun w h => List.mem_cons_of_mem _ (i_Md w h)) hown hK.1 hP 0 (wMd_0 t a (gSt σ 0 0 0)) rfl 33 (by decide) (hts (.fieldLink R_Md 86 "FlatBoxesModel" "spreads" "[I") (List.mem_cons_of_mem _ (gIn k_699 (by decide +kernel)))) (fun _ h9 => h9) rfl d_Md_counted_202 ?_
              refine lv_iload hx hb d_Md_counted_205 (lv_at hl 6 rfl) ?_
              refine g_iald hx hb hK.1 hP 26 0 (wMd_33 t a (gSt σ 0 0 0)) rfl (6 * b + j) (rfl) (by omega) (by decide) d_Md_counted_207 ?_
              refine lv_topi (fun v_18 e_18 => ?_)
              obtain rfl : σ 33 (6 * b + j) = v_18 := (e_18.trans (rfl)).symm
              refine lv_iadd hx hb d_Md_counted_208 ?_
              refine g_si (k := 3) (As := [.int wt, .int (sm + (σ 32 (6 * b + j))), .int (sr + (σ 33 (6 * b + j)))]) (rest := []) (own := R_Md) (index := 167) ⟨hx, hb, hml, hown, hts⟩ (c_Md_isWithin l D t a (gSt σ 0 0 0) wt (sm + (σ 32 (6 * b + j))) (sr + (σ 33 (6 * b + j)))) (gg_Md_167 _) (by decide +kernel) ⟨Nat.le_of_ble_eq_true rfl, Nat.le_of_ble_eq_true rfl⟩ rfl hK hP hD hS hl.1 rfl (Nat.le_of_ble_eq_true rfl) ⟨Nat.zero_le _, Nat.zero_le _⟩ d_Md_counted_209 (fun r_19 u_19 H locs q_19 hP hD hS => ?_)
              obtain ⟨rfl, hu_19⟩ := q_19
              rw [hu_19] at hP hD
              refine lv_if_eq (tgt := 219) hx hb d_Md_counted_212 (by decide) (fun c_20 => ?_) (fun c_20 => ?_)
              · 
                refine lv_iconst (v := 0) hx hb d_Md_counted_219 (by decide) ?_
                refine lv_istore (lv' := [(5, .int 0), (0, .ref (a 0)), (1, .int (nI b)), (2, .int wt), (3, .int sm), (4, .int sr), (6, .int (nI (6 * b + j)))]) hx hb d_Md_counted_220 hl (by decide) rfl (fun ls hl => ?_)
                refine lv_iinc (v := nI (6 * b + j + 1)) (lv' := [(6, .int (nI (6 * b + j + 1))), (5, .int 0), (0, .ref (a 0)), (1, .int (nI b)), (2, .int wt), (3, .int sm), (4, .int sr)]) hx hb d_Md_counted_222 hl (k := 6) rfl (nI_1 (6 * b + j)) (by decide) rfl (fun ls hl => ?_)
                refine lv_goto (tgt := 132) hx hb d_Md_counted_225 (by decide) ?_
                exact ih b (j + 1) sm sr 0 _ _ _ (by omega) (by omega) (by omega) (by omega) (by first | (subst hun; simp [mUns, c_4, h_4, c_6, c_8, c_16, c_20]; done) | (subst hun; simp [mUns, c_4, h_4, c_6, c_8, c_16, c_20]; exact gb1 (mWithin01 _ _ _) (by assumption))) (hbg) (hcd) (hs1) (hs2) (hw) hP hD hS (lv_sub hl [2, 3, 4, 5, 6, 1, 0] rfl)
              · 
                refine lv_iconst (v := 1) hx hb d_Md_counted_215 (by decide) ?_
                refine lv_goto (tgt := 220) hx hb d_Md_counted_216 (by decide) ?_
                refine lv_istore (lv' := [(5, .int 1), (0, .ref (a 0)), (1, .int (nI b)), (2, .int wt), (3, .int sm), (4, .int sr), (6, .int (nI (6 * b + j)))]) hx hb d_Md_counted_220 hl (by decide) rfl (fun ls hl => ?_)
                refine lv_iinc (v := nI (6 * b + j + 1)) (lv' := [(6, .int (nI (6 * b + j + 1))), (5, .int 1), (0, .ref (a 0)), (1, .int (nI b)), (2, .int wt), (3, .int sm), (4, .int sr)]) hx hb d_Md_counted_222 hl (k := 6) rfl (nI_1 (6 * b + j)) (by decide) rfl (fun ls hl => ?_)
                refine lv_goto (tgt := 132) hx hb d_Md_counted_225 (by decide) ?_
                exact ih b (j + 1) sm sr 1 _ _ _ (by omega) (by omega) (by omega) (by omega) (by first | (subst hun; simp [mUns, c_4, h_4, c_6, c_8, c_16, c_20]; done) | (subst hun; simp [mUns, c_4, h_4, c_6, c_8, c_16, c_20]; exact gb1 (mWithin01 _ _ _) (by assumption))) (hbg) (hcd) (hs1) (hs2) (hw) hP hD hS (lv_sub hl [2, 3, 4, 5, 6, 1, 0] rfl)
  have cut_51 : ∀ (n : Nat) (b : Nat) (j : Nat) (sm : Int32) (sr : Int32) (H : Heap) (locs : List Loc) (ls : Array Slot), (b < nb) → (j ≤ kc b) → (kc b ≤ 6) → (kc b + 1 ≤ j + n) → (bg = nI b) → (mCntC nb bg wt = 0) → (sm = mS1 σ 32 b j) → (sr = mS1 σ 33 b j) → va_P D gCl (wMd t a (gSt σ 0 0 0)) H → va_D A (wMd t a (gSt σ 0 0 0)) → va_S A s.heap H locs → lv_has ls 7 [(0, .ref (a 0)), (1, .int (nI b)), (2, .int wt), (3, .int sm), (4, .int sr), (5, .int (nI (6 * b + j)))] → gGo l p e s m below meth c D t A 1 [.ref (a 0), .int bg, .int wt] (wMd t a) (fun r u => r = mCntR σ nb kc bg wt ∧ u = gSt σ 0 0 (mCntC nb bg wt)) H locs (F0 m 51 ls []) := by
    intro n
    induction n with
    | zero =>
      intro b j sm sr H locs ls hbn hj hk6 hf hbg hcd hs1 hs2 hP hD hS hl
      exact absurd hf (by omega)
    | succ n ih =>
      intro b j sm sr H locs ls hbn hj hk6 hf hbg hcd hs1 hs2 hP hD hS hl
      refine lv_iload hx hb d_Md_counted_51 (lv_at hl 5 rfl) ?_
      refine lv_bipush (v := 6) hx hb d_Md_counted_53 (by decide) ?_
      refine lv_iload_n hx hb d_Md_counted_55 rfl (lv_at hl 1 rfl) ?_
      refine lv_imul hx hb d_Md_counted_56 ?_
      refine lv_topi (fun v_21 e_21 => ?_)
      obtain rfl : nI (6 * b) = v_21 := (e_21.trans (gMul6 b)).symm
      refine lv_aload_n hx hb d_Md_counted_57 rfl (lv_at hl 0 rfl) ?_
      refine va_get (D := D) (ci := 7) (v := .ref (a 30)) (C := R_Md) (T := F_Md) (N := 34) hx hb hts (fun w h => List.mem_cons_of_mem _ (i_Md w h)) hown hK.1 hP 0 (wMd_0 t a (gSt σ 0 0 0)) rfl 30 (by decide) (hts (.fieldLink R_Md 77 "FlatBoxesModel" "kindCounts" "[I") (List.mem_cons_of_mem _ (gIn k_696 (by decide +kernel)))) (fun _ h9 => h9) rfl d_Md_counted_58 ?_
      refine lv_iload_n hx hb d_Md_counted_61 rfl (lv_at hl 1 rfl) ?_
      refine g_iald hx hb hK.1 hP 23 0 (wMd_30 t a (gSt σ 0 0 0)) rfl b (rfl) (by omega) (by decide) d_Md_counted_62 ?_
      refine lv_topi (fun v_22 e_22 => ?_)
      obtain rfl : nI (kc b) = v_22 := (e_22.trans ((hkc b (by omega)).1)).symm
      refine lv_iadd hx hb d_Md_counted_63 ?_
      refine lv_topi (fun v_23 e_23 => ?_)
      obtain rfl : nI (6 * b + kc b) = v_23 := (e_23.trans (nI_add _ _)).symm
      refine lv_icmp_ge (tgt := 111) hx hb d_Md_counted_64 (by decide) (fun c_24 => ?_) (fun c_24 => ?_)
      · 
        have h_24 : 6 * b + kc b ≤ 6 * b + j := (nI_leI (a := 6 * b + kc b) (b := 6 * b + j) (by omega) (by omega)).mp c_24
        refine lv_iload_n hx hb d_Md_counted_111 rfl (lv_at hl 2 rfl) ?_
        refine lv_iload_n hx hb d_Md_counted_112 rfl (lv_at hl 3 rfl) ?_
        refine lv_iload hx hb d_Md_counted_113 (lv_at hl 4 rfl) ?_
        refine g_si (k := 3) (As := [.int wt, .int sm, .int sr]) (rest := []) (own := R_Md) (index := 167) ⟨hx, hb, hml, hown, hts⟩ (c_Md_isWithin l D t a (gSt σ 0 0 0) wt sm sr) (gg_Md_167 _) (by decide +kernel) ⟨Nat.le_of_ble_eq_true rfl, Nat.le_of_ble_eq_true rfl⟩ rfl hK hP hD hS hl.1 rfl (Nat.le_of_ble_eq_true rfl) ⟨Nat.zero_le _, Nat.zero_le _⟩ d_Md_counted_115 (fun r_25 u_25 H locs q_25 hP hD hS => ?_)
        obtain ⟨rfl, hu_25⟩ := q_25
        rw [hu_25] at hP hD
        refine lv_if_ne (tgt := 123) hx hb d_Md_counted_118 (by decide) (fun c_26 => ?_) (fun c_26 => ?_)
        · 
          refine lv_iconst (v := 0) hx hb d_Md_counted_123 (by decide) ?_
          refine lv_istore (lv' := [(5, .int 0), (0, .ref (a 0)), (1, .int (nI b)), (2, .int wt), (3, .int sm), (4, .int sr)]) hx hb d_Md_counted_124 hl (by decide) rfl (fun ls hl => ?_)
          refine lv_bipush (v := 6) hx hb d_Md_counted_126 (by decide) ?_
          refine lv_iload_n hx hb d_Md_counted_128 rfl (lv_at hl 2 rfl) ?_
          refine lv_imul hx hb d_Md_counted_129 ?_
          refine lv_topi (fun v_27 e_27 => ?_)
          obtain rfl : nI (6 * b) = v_27 := (e_27.trans (gMul6 b)).symm
          refine lv_istore (lv' := [(6, .int (nI (6 * b))), (5, .int 0), (0, .ref (a 0)), (1, .int (nI b)), (2, .int wt), (3, .int sm), (4, .int sr)]) hx hb d_Md_counted_130 hl (by decide) rfl (fun ls hl => ?_)
          exact cut_132 (kc b + 1) b 0 sm sr 0 _ _ _ (by omega) (by omega) (hk6) (by omega) (rfl) (hbg) (hcd) (by obtain rfl : j = kc b := (by omega); exact hs1) (by obtain rfl : j = kc b := (by omega); exact hs2) (by assumption) hP hD hS (lv_sub hl [2, 3, 4, 5, 6, 1, 0] rfl)
        · 
          refine lv_iconst (v := 0) hx hb d_Md_counted_121 (by decide) ?_
          exact W.iret (v := 0) hx hb hr (fun U hU hW => ⟨⟨0, gSt σ 0 0 0, rfl, by obtain rfl : j = kc b := (by omega); subst hs1 hs2; exact ⟨by rw [mCntR, if_pos hcd, hbg, nI_clamp (by omega), mCntV, if_pos (by assumption)], by rw [hcd]⟩, by rw [hU]; exact hP, hD⟩, hS.F hU⟩) hS.2.2 d_Md_counted_122
      · 
        have h_24 : ¬ 6 * b + kc b ≤ 6 * b + j := fun q9 => c_24 ((nI_leI (a := 6 * b + kc b) (b := 6 * b + j) (by omega) (by omega)).mpr q9)
        refine lv_iload_n hx hb d_Md_counted_67 rfl (lv_at hl 3 rfl) ?_
        refine lv_aload_n hx hb d_Md_counted_68 rfl (lv_at hl 0 rfl) ?_
        refine va_get (D := D) (ci := 7) (v := .ref (a 31)) (C := R_Md) (T := F_Md) (N := 34) hx hb hts (fun w h => List.mem_cons_of_mem _ (i_Md w h)) hown hK.1 hP 0 (wMd_0 t a (gSt σ 0 0 0)) rfl 31 (by decide) (hts (.fieldLink R_Md 80 "FlatBoxesModel" "manies" "[I") (List.mem_cons_of_mem _ (gIn k_697 (by decide +kernel)))) (fun _ h9 => h9) rfl d_Md_counted_69 ?_
        refine lv_iload hx hb d_Md_counted_72 (lv_at hl 5 rfl) ?_
        refine g_iald hx hb hK.1 hP 24 0 (wMd_31 t a (gSt σ 0 0 0)) rfl (6 * b + j) (rfl) (by omega) (by decide) d_Md_counted_74 ?_
        refine lv_topi (fun v_28 e_28 => ?_)
        obtain rfl : σ 31 (6 * b + j) = v_28 := (e_28.trans (rfl)).symm
        refine lv_aload_n hx hb d_Md_counted_75 rfl (lv_at hl 0 rfl) ?_
        refine va_get (D := D) (ci := 7) (v := .ref (a 32)) (C := R_Md) (T := F_Md) (N := 34) hx hb hts (fun w h => List.mem_cons_of_mem _ (i_Md w h)) hown hK.1 hP 0 (wMd_0 t a (gSt σ 0 0 0)) rfl 32 (by decide) (hts (.fieldLink R_Md 83 "FlatBoxesModel" "eaches" "[I") (List.mem_cons_of_mem _ (gIn k_698 (by decide +kernel)))) (fun _ h9 => h9) rfl d_Md_counted_76 ?_
        refine lv_iload hx hb d_Md_counted_79 (lv_at hl 5 rfl) ?_
        refine g_iald hx hb hK.1 hP 25 0 (wMd_32 t a (gSt σ 0 0 0)) rfl (6 * b + j) (rfl) (by omega) (by decide) d_Md_counted_81 ?_
        refine lv_topi (fun v_29 e_29 => ?_)
        obtain rfl : σ 32 (6 * b + j) = v_29 := (e_29.trans (rfl)).symm
        refine lv_imul hx hb d_Md_counted_82 ?_
        refine lv_iadd hx hb d_Md_counted_83 ?_
        refine lv_istore_n (lv' := [(3, .int (sm + ((σ 31 (6 * b + j)) * (σ 32 (6 * b + j))))), (0, .ref (a 0)), (1, .int (nI b)), (2, .int wt), (4, .int sr), (5, .int (nI (6 * b + j)))]) hx hb d_Md_counted_84 rfl hl (by decide) rfl (fun ls hl => ?_)
        refine lv_iload hx hb d_Md_counted_85 (lv_at hl 4 rfl) ?_
        refine lv_aload_n hx hb d_Md_counted_87 rfl (lv_at hl 1 rfl) ?_
        refine va_get (D := D) (ci := 7) (v := .ref (a 31)) (C := R_Md) (T := F_Md) (N := 34) hx hb hts (fun w h => List.mem_cons_of_mem _ (i_Md w h)) hown hK.1 hP 0 (wMd_0 t a (gSt σ 0 0 0)) rfl 31 (by decide) (hts (.fieldLink R_Md 80 "FlatBoxesModel" "manies" "[I") (List.mem_cons_of_mem _ (gIn k_697 (by decide +kernel)))) (fun _ h9 => h9) rfl d_Md_counted_88 ?_
        refine lv_iload hx hb d_Md_counted_91 (lv_at hl 5 rfl) ?_
        refine g_iald hx hb hK.1 hP 24 0 (wMd_31 t a (gSt σ 0 0 0)) rfl (6 * b + j) (rfl) (by omega) (by decide) d_Md_counted_93 ?_
        refine lv_topi (fun v_30 e_30 => ?_)
        obtain rfl : σ 31 (6 * b + j) = v_30 := (e_30.trans (rfl)).symm
        refine lv_aload_n hx hb d_Md_counted_94 rfl (lv_at hl 1 rfl) ?_
        refine va_get (D := D) (ci := 7) (v := .ref (a 33)) (C := R_Md) (T := F_Md) (N := 34) hx hb hts (fun w h => List.mem_cons_of_mem _ (i_Md w h)) hown hK.1 hP 0 (wMd_0 t a (gSt σ 0 0 0)) rfl 33 (by decide) (hts (.fieldLink R_Md 86 "FlatBoxesModel" "spreads" "[I") (List.mem_cons_of_mem _ (gIn k_699 (by decide +kernel)))) (fun _ h9 => h9) rfl d_Md_counted_95 ?_
        refine lv_iload hx hb d_Md_counted_98 (lv_at hl 5 rfl) ?_
        refine g_iald hx hb hK.1 hP 26 0 (wMd_33 t a (gSt σ 0 0 0)) rfl (6 * b + j) (rfl) (by omega) (by decide) d_Md_counted_100 ?_
        refine lv_topi (fun v_31 e_31 => ?_)
        obtain rfl : σ 33 (6 * b + j) = v_31 := (e_31.trans (rfl)).symm
        refine lv_imul hx hb d_Md_counted_101 ?_
        refine lv_iadd hx hb d_Md_counted_102 ?_
        refine lv_istore (lv' := [(4, .int (sr + ((σ 31 (6 * b + j)) * (σ 33 (6 * b + j))))), (3, .int (sm + ((σ 31 (6 * b + j)) * (σ 32 (6 * b + j))))), (0, .ref (a 0)), (1, .int (nI b)), (2, .int wt), (5, .int (nI (6 * b + j)))]) hx hb d_Md_counted_103 hl (by decide) rfl (fun ls hl => ?_)
        refine lv_iinc (v := nI (6 * b + j + 1)) (lv' := [(5, .int (nI (6 * b + j + 1))), (4, .int (sr + ((σ 31 (6 * b + j)) * (σ 33 (6 * b + j))))), (3, .int (sm + ((σ 31 (6 * b + j)) * (σ 32 (6 * b + j))))), (0, .ref (a 0)), (1, .int (nI b)), (2, .int wt)]) hx hb d_Md_counted_105 hl (k := 5) rfl (nI_1 (6 * b + j)) (by decide) rfl (fun ls hl => ?_)
        refine lv_goto (tgt := 51) hx hb d_Md_counted_108 (by decide) ?_
        exact ih b (j + 1) (sm + ((σ 31 (6 * b + j)) * (σ 32 (6 * b + j)))) (sr + ((σ 31 (6 * b + j)) * (σ 33 (6 * b + j)))) _ _ _ (by omega) (by omega) (by omega) (by omega) (hbg) (hcd) (by rw [hs1]; rfl) (by rw [hs2]; rfl) hP hD hS (lv_sub hl [3, 4, 5, 2, 1, 0] rfl)
  refine lv_aload_n hx hb d_Md_counted_0 rfl (lv_at hl 0 rfl) ?_
  refine lv_iload_n hx hb d_Md_counted_1 rfl (lv_at hl 1 rfl) ?_
  refine lv_iconst (v := 0) hx hb d_Md_counted_2 (by decide) ?_
  refine lv_aload_n hx hb d_Md_counted_3 rfl (lv_at hl 0 rfl) ?_
  refine va_get (D := D) (ci := 7) (v := .int (σ 29 0)) (C := R_Md) (T := F_Md) (N := 34) hx hb hts (fun w h => List.mem_cons_of_mem _ (i_Md w h)) hown hK.1 hP 0 (wMd_0 t a σ) rfl 29 (by decide) (hts (.fieldLink R_Md 164 "FlatBoxesModel" "bags" "I") (List.mem_cons_of_mem _ (gIn k_695 (by decide +kernel)))) (fun _ h9 => h9) rfl d_Md_counted_4 ?_
  refine lv_topi (fun v_32 e_32 => ?_)
  obtain rfl : nI nb = v_32 := (e_32.trans hB).symm
  refine lv_iconst (v := 1) hx hb d_Md_counted_7 (by decide) ?_
  refine lv_isub hx hb d_Md_counted_8 ?_
  refine g_si (k := 3) (As := [.int bg, .int 0, .int ((nI nb) - 1)]) (rest := [.ref (a 0)]) (own := R_Md) (index := 96) ⟨hx, hb, hml, hown, hts⟩ (c_Md_in l D t a σ bg 0 ((nI nb) - 1)) (gg_Md_96 _) (by decide +kernel) ⟨Nat.le_of_ble_eq_true rfl, Nat.le_of_ble_eq_true rfl⟩ rfl hK hP hD hS hl.1 rfl (Nat.le_of_ble_eq_true rfl) ⟨Nat.zero_le _, Nat.zero_le _⟩ d_Md_counted_9 (fun r_33 u_33 H locs q_33 hP hD hS => ?_)
  obtain ⟨rfl, hu_33⟩ := q_33
  rw [hu_33] at hP hD
  refine lv_if_ne (tgt := 19) hx hb d_Md_counted_12 (by decide) (fun c_34 => ?_) (fun c_34 => ?_)
  · 
    refine lv_iload_n hx hb d_Md_counted_19 rfl (lv_at hl 2 rfl) ?_
    refine lv_if_ge (tgt := 27) hx hb d_Md_counted_20 (by decide) (fun c_35 => ?_) (fun c_35 => ?_)
    · 
      refine lv_iconst (v := 0) hx hb d_Md_counted_27 (by decide) ?_
      refine va_put (D := D) (ci := 7) (v := .int 0) (ty := .int) (C := R_Md) (T := F_Md) (N := 34) hx hb hts (fun w h => List.mem_cons_of_mem _ (i_Md w h)) t_Md t_Md_ok n_Md hown hK.1 hP hD hS 0 (wMd_0 t a σ) rfl 0 (by decide) (hts (.fieldLink R_Md 93 "FlatBoxesModel" "code" "I") (List.mem_cons_of_mem _ (gIn k_666 (by decide +kernel)))) (fun _ h9 => h9) rfl (by decide +kernel) rfl rfl (Nat.le_of_ble_eq_true rfl) d_Md_counted_28 (fun H locs hP hD hS => ?_)
      have hP : va_P D gCl (wMd t a (gSt σ 0 0 0)) H := hP
      have hD : va_D A (wMd t a (gSt σ 0 0 0)) := hD
      refine lv_aload_n hx hb d_Md_counted_31 rfl (lv_at hl 0 rfl) ?_
      refine va_get (D := D) (ci := 7) (v := .int ((gSt σ 0 0 0) 0 0)) (C := R_Md) (T := F_Md) (N := 34) hx hb hts (fun w h => List.mem_cons_of_mem _ (i_Md w h)) hown hK.1 hP 0 (wMd_0 t a (gSt σ 0 0 0)) rfl 0 (by decide) (hts (.fieldLink R_Md 93 "FlatBoxesModel" "code" "I") (List.mem_cons_of_mem _ (gIn k_666 (by decide +kernel)))) (fun _ h9 => h9) rfl d_Md_counted_32 ?_
      refine lv_topi (fun v_36 e_36 => ?_)
      obtain rfl : 0 = v_36 := (e_36.trans (rfl)).symm
      refine lv_if_le (tgt := 40) hx hb d_Md_counted_35 (by decide) (fun c_37 => ?_) (fun c_37 => ?_)
      · 
        have hcd : mCntC nb bg wt = 0 := by simp [mCntC, c_34, c_35, c_37]
        obtain ⟨b, hbn, rfl⟩ := mIn_nat (n := nb) (by omega) c_34
        refine lv_iconst (v := 0) hx hb d_Md_counted_40 (by decide) ?_
        refine lv_istore_n (lv' := [(3, .int 0), (0, .ref (a 0)), (1, .int (nI b)), (2, .int wt)]) hx hb d_Md_counted_41 rfl hl (by decide) rfl (fun ls hl => ?_)
        refine lv_iconst (v := 0) hx hb d_Md_counted_42 (by decide) ?_
        refine lv_istore (lv' := [(4, .int 0), (3, .int 0), (0, .ref (a 0)), (1, .int (nI b)), (2, .int wt)]) hx hb d_Md_counted_43 hl (by decide) rfl (fun ls hl => ?_)
        refine lv_bipush (v := 6) hx hb d_Md_counted_45 (by decide) ?_
        refine lv_iload_n hx hb d_Md_counted_47 rfl (lv_at hl 3 rfl) ?_
        refine lv_imul hx hb d_Md_counted_48 ?_
        refine lv_topi (fun v_38 e_38 => ?_)
        obtain rfl : nI (6 * b) = v_38 := (e_38.trans (gMul6 b)).symm
        refine lv_istore (lv' := [(5, .int (nI (6 * b))), (4, .int 0), (3, .int 0), (0, .ref (a 0)), (1, .int (nI b)), (2, .int wt)]) hx hb d_Md_counted_49 hl (by decide) rfl (fun ls hl => ?_)
        exact cut_51 (kc b + 1) b 0 0 0 _ _ _ (by omega) (by omega) ((hkc b hbn).2) (by omega) (rfl) (hcd) (rfl) (rfl) hP hD hS (lv_sub hl [3, 4, 5, 2, 1, 0] rfl)
      · 
        exact absurd c_37 (by decide)
    · 
      refine lv_iconst (v := 2) hx hb d_Md_counted_23 (by decide) ?_
      refine lv_goto (tgt := 28) hx hb d_Md_counted_24 (by decide) ?_
      refine va_put (D := D) (ci := 7) (v := .int 2) (ty := .int) (C := R_Md) (T := F_Md) (N := 34) hx hb hts (fun w h => List.mem_cons_of_mem _ (i_Md w h)) t_Md t_Md_ok n_Md hown hK.1 hP hD hS 0 (wMd_0 t a σ) rfl 0 (by decide) (hts (.fieldLink R_Md 93 "FlatBoxesModel" "code" "I") (List.mem_cons_of_mem _ (gIn k_666 (by decide +kernel)))) (fun _ h9 => h9) rfl (by decide +kernel) rfl rfl (Nat.le_of_ble_eq_true rfl) d_Md_counted_28 (fun H locs hP hD hS => ?_)
      have hP : va_P D gCl (wMd t a (gSt σ 0 0 2)) H := hP
      have hD : va_D A (wMd t a (gSt σ 0 0 2)) := hD
      refine lv_aload_n hx hb d_Md_counted_31 rfl (lv_at hl 0 rfl) ?_
      refine va_get (D := D) (ci := 7) (v := .int ((gSt σ 0 0 2) 0 0)) (C := R_Md) (T := F_Md) (N := 34) hx hb hts (fun w h => List.mem_cons_of_mem _ (i_Md w h)) hown hK.1 hP 0 (wMd_0 t a (gSt σ 0 0 2)) rfl 0 (by decide) (hts (.fieldLink R_Md 93 "FlatBoxesModel" "code" "I") (List.mem_cons_of_mem _ (gIn k_666 (by decide +kernel)))) (fun _ h9 => h9) rfl d_Md_counted_32 ?_
      refine lv_topi (fun v_39 e_39 => ?_)
      obtain rfl : 2 = v_39 := (e_39.trans (rfl)).symm
      refine lv_if_le (tgt := 40) hx hb d_Md_counted_35 (by decide) (fun c_40 => ?_) (fun c_40 => ?_)
      · 
        exact absurd c_40 (by decide)
      · 
        refine lv_iconst (v := 0) hx hb d_Md_counted_38 (by decide) ?_
        exact W.iret (v := 0) hx hb hr (fun U hU hW => ⟨⟨0, gSt σ 0 0 2, rfl, by exact ⟨by simp [mCntR, mCntC, c_34, c_35, c_40], by simp [mCntC, c_34, c_35, c_40]⟩, by rw [hU]; exact hP, hD⟩, hS.F hU⟩) hS.2.2 d_Md_counted_39
  · 
    refine lv_iconst (v := 1) hx hb d_Md_counted_15 (by decide) ?_
    refine lv_goto (tgt := 28) hx hb d_Md_counted_16 (by decide) ?_
    refine va_put (D := D) (ci := 7) (v := .int 1) (ty := .int) (C := R_Md) (T := F_Md) (N := 34) hx hb hts (fun w h => List.mem_cons_of_mem _ (i_Md w h)) t_Md t_Md_ok n_Md hown hK.1 hP hD hS 0 (wMd_0 t a σ) rfl 0 (by decide) (hts (.fieldLink R_Md 93 "FlatBoxesModel" "code" "I") (List.mem_cons_of_mem _ (gIn k_666 (by decide +kernel)))) (fun _ h9 => h9) rfl (by decide +kernel) rfl rfl (Nat.le_of_ble_eq_true rfl) d_Md_counted_28 (fun H locs hP hD hS => ?_)
    have hP : va_P D gCl (wMd t a (gSt σ 0 0 1)) H := hP
    have hD : va_D A (wMd t a (gSt σ 0 0 1)) := hD
    refine lv_aload_n hx hb d_Md_counted_31 rfl (lv_at hl 0 rfl) ?_
    refine va_get (D := D) (ci := 7) (v := .int ((gSt σ 0 0 1) 0 0)) (C := R_Md) (T := F_Md) (N := 34) hx hb hts (fun w h => List.mem_cons_of_mem _ (i_Md w h)) hown hK.1 hP 0 (wMd_0 t a (gSt σ 0 0 1)) rfl 0 (by decide) (hts (.fieldLink R_Md 93 "FlatBoxesModel" "code" "I") (List.mem_cons_of_mem _ (gIn k_666 (by decide +kernel)))) (fun _ h9 => h9) rfl d_Md_counted_32 ?_
    refine lv_topi (fun v_41 e_41 => ?_)
    obtain rfl : 1 = v_41 := (e_41.trans (rfl)).symm
    refine lv_if_le (tgt := 40) hx hb d_Md_counted_35 (by decide) (fun c_42 => ?_) (fun c_42 => ?_)
    · 
      exact absurd c_42 (by decide)
    · 
      refine lv_iconst (v := 0) hx hb d_Md_counted_38 (by decide) ?_
      exact W.iret (v := 0) hx hb hr (fun U hU hW => ⟨⟨0, gSt σ 0 0 1, rfl, by exact ⟨by simp [mCntR, mCntC, c_34, c_42], by simp [mCntC, c_34, c_42]⟩, by rw [hU]; exact hP, hD⟩, hS.F hU⟩) hS.2.2 d_Md_counted_39
set_option maxHeartbeats 4000000 in
set_option maxRecDepth 100000 in
theorem c_Md_packBox (l : Launch) (D : va_G) (t : Nat → ClassId) (a : Nat → Nat) (σ : Nat → Nat → Int32) (bx np sx1 c1 : Nat) (rho ord : Nat → Nat) (hN : σ 8 0 = nI np) (hN8 : np ≤ 8) (hbx : bx < 8) (hrow : ∀ q, q < np → σ 26 q = nI (rho q) ∧ rho q < 8) (hsx : (mSets σ rho np).1 28 bx = nI sx1) (hsx2 : sx1 < 256) (hcc : σ 23 sx1 = nI c1) (hc4 : c1 < 4) (hord : ∀ k, k < np → ord k < np ∧ mBT (σ 11) np (nI k) np 0 = nI (ord k)) : gMi l D t y_Md_packBox b_Md_packBox 4 (some .int) 2 [.ref (a 0), .int (nI bx)] (wMd t a σ) (wMd t a) (fun r u => r = nI c1 ∧ u = (mPk (mSets σ rho np).1 ord (nI sx1) c1 np).1) := by
  intro A
  refine Met.ofW (cc := b_Md_packBox) (maxL := 4) (ret := (some .int)) (by decide) rfl ?_
  intro p e s m args below meth c s₁ B hml hv
  obtain ⟨rfl, hK, hP, hD⟩ := hv
  have hx := B.exec
  have hb := B.bytes
  have hr := B.returns
  have hts := atoms_spec (ws := .code y_Md_packBox b_Md_packBox 4 (some .int) :: gBig) B.pre
  have hown : s.vm.findClass R_Md = some m.cls := findClass_of_methodNamed B.named
  have hlocks := B.notSynchronized
  have hS : va_S A s.heap s.heap [] := va_S.rf
  have hl := lv_entry ([.ref (a 0), .int (nI bx)]) (n := 4) (Nat.le_of_ble_eq_true rfl)
  rw [lg_entry_eq]
  generalize (lg_sl ([.ref (a 0), .int (nI bx)]) ++ List.replicate (4 - (lg_sl ([.ref (a 0), .int (nI bx)])).length) Slot.unset).toArray = ls at hl ⊢
  have hl : lv_has ls 4 [(0, .ref (a 0)), (1, .int (nI bx))] := hl
  show gGo l p e s m below meth c D t A 2 [.ref (a 0), .int (nI bx)] (wMd t a) (fun r u => r = nI c1 ∧ u = (mPk (mSets σ rho np).1 ord (nI sx1) c1 np).1) s.heap [] (F0 m 0 ls [])
  refine lv_aload_n hx hb d_Md_packBox_0 rfl (lv_at hl 0 rfl) ?_
  refine lv_aload_n hx hb d_Md_packBox_1 rfl (lv_at hl 0 rfl) ?_
  refine va_get (D := D) (ci := 7) (v := .ref (a 26)) (C := R_Md) (T := F_Md) (N := 34) hx hb hts (fun w h => List.mem_cons_of_mem _ (i_Md w h)) hown hK.1 hP 0 (wMd_0 t a σ) rfl 26 (by decide) (hts (.fieldLink R_Md 68 "FlatBoxesModel" "shares" "[I") (List.mem_cons_of_mem _ (gIn k_692 (by decide +kernel)))) (fun _ h9 => h9) rfl d_Md_packBox_2 ?_
  refine g_vi (k := 1) (As := [.ref (a 26)]) (rest := []) (own := R_Md) (C := R_Md) (index := 144) ⟨hx, hb, hml, hown, hts⟩ (c_Md_setsOf_s l D t a σ np rho hN hN8 hrow) (gg_Md_144 _) (by decide +kernel) ⟨Nat.le_of_ble_eq_true rfl, Nat.le_of_ble_eq_true rfl⟩ rfl (va_recv hK.1 hP (ci := 7) (q0 := 0) rfl (wMd_0 t a σ)) hK hP hD hS hl.1 rfl (Nat.le_of_ble_eq_true rfl) ⟨Nat.zero_le _, Nat.zero_le _⟩ d_Md_packBox_5 (fun r_1 u_1 H locs q_1 hP hD hS => ?_)
  obtain ⟨rfl, hu_1⟩ := q_1
  rw [hu_1] at hP hD
  refine lv_istore_n (lv' := [(2, .int (nI (mSets σ rho np).2)), (0, .ref (a 0)), (1, .int (nI bx))]) hx hb d_Md_packBox_8 rfl hl (by decide) rfl (fun ls hl => ?_)
  refine lv_aload_n hx hb d_Md_packBox_9 rfl (lv_at hl 1 rfl) ?_
  refine va_get (D := D) (ci := 7) (v := .ref (a 23)) (C := R_Md) (T := F_Md) (N := 34) hx hb hts (fun w h => List.mem_cons_of_mem _ (i_Md w h)) hown hK.1 hP 0 (wMd_0 t a ((mSets σ rho np).1)) rfl 23 (by decide) (hts (.fieldLink R_Md 65 "FlatBoxesModel" "boxOf" "[I") (List.mem_cons_of_mem _ (gIn k_689 (by decide +kernel)))) (fun _ h9 => h9) rfl d_Md_packBox_10 ?_
  refine lv_aload_n hx hb d_Md_packBox_13 rfl (lv_at hl 1 rfl) ?_
  refine va_get (D := D) (ci := 7) (v := .ref (a 28)) (C := R_Md) (T := F_Md) (N := 34) hx hb hts (fun w h => List.mem_cons_of_mem _ (i_Md w h)) hown hK.1 hP 0 (wMd_0 t a ((mSets σ rho np).1)) rfl 28 (by decide) (hts (.fieldLink R_Md 74 "FlatBoxesModel" "sets" "[I") (List.mem_cons_of_mem _ (gIn k_694 (by decide +kernel)))) (fun _ h9 => h9) rfl d_Md_packBox_14 ?_
  refine lv_iload_n hx hb d_Md_packBox_17 rfl (lv_at hl 2 rfl) ?_
  refine g_iald hx hb hK.1 hP 22 0 (wMd_28 t a ((mSets σ rho np).1)) rfl bx (rfl) (by omega) (by decide) d_Md_packBox_18 ?_
  refine lv_topi (fun v_2 e_2 => ?_)
  obtain rfl : nI sx1 = v_2 := (e_2.trans (hsx)).symm
  refine g_iald hx hb hK.1 hP 19 0 (wMd_23 t a ((mSets σ rho np).1)) rfl sx1 (rfl) (by omega) (by decide) d_Md_packBox_19 ?_
  refine lv_topi (fun v_3 e_3 => ?_)
  obtain rfl : nI c1 = v_3 := (e_3.trans ((congrFun (mSets_fix σ rho (by decide) np) sx1).trans hcc)).symm
  refine lv_istore_n (lv' := [(3, .int (nI c1)), (2, .int (nI (mSets σ rho np).2)), (0, .ref (a 0)), (1, .int (nI bx))]) hx hb d_Md_packBox_20 rfl hl (by decide) rfl (fun ls hl => ?_)
  refine lv_aload_n hx hb d_Md_packBox_21 rfl (lv_at hl 2 rfl) ?_
  refine lv_aload_n hx hb d_Md_packBox_22 rfl (lv_at hl 2 rfl) ?_
  refine va_get (D := D) (ci := 7) (v := .ref (a 28)) (C := R_Md) (T := F_Md) (N := 34) hx hb hts (fun w h => List.mem_cons_of_mem _ (i_Md w h)) hown hK.1 hP 0 (wMd_0 t a ((mSets σ rho np).1)) rfl 28 (by decide) (hts (.fieldLink R_Md 74 "FlatBoxesModel" "sets" "[I") (List.mem_cons_of_mem _ (gIn k_694 (by decide +kernel)))) (fun _ h9 => h9) rfl d_Md_packBox_23 ?_
  refine lv_iload_n hx hb d_Md_packBox_26 rfl (lv_at hl 3 rfl) ?_
  refine g_iald hx hb hK.1 hP 22 0 (wMd_28 t a ((mSets σ rho np).1)) rfl bx (rfl) (by omega) (by decide) d_Md_packBox_27 ?_
  refine lv_topi (fun v_4 e_4 => ?_)
  obtain rfl : nI sx1 = v_4 := (e_4.trans (hsx)).symm
  refine lv_iload_n hx hb d_Md_packBox_28 rfl (lv_at hl 0 rfl) ?_
  refine g_vi (k := 2) (As := [.int (nI sx1), .int (nI c1)]) (rest := []) (own := R_Md) (C := R_Md) (index := 135) ⟨hx, hb, hml, hown, hts⟩ (c_Md_pack l D t a ((mSets σ rho np).1) (nI sx1) c1 np ord ((congrFun (mSets_fix σ rho (by decide) np) 0).trans hN) hN8 hc4 (fun k hk => by rw [mSets_fix σ rho (by decide) np]; exact hord k hk)) (gg_Md_135 _) (by decide +kernel) ⟨Nat.le_of_ble_eq_true rfl, Nat.le_of_ble_eq_true rfl⟩ rfl (va_recv hK.1 hP (ci := 7) (q0 := 0) rfl (wMd_0 t a ((mSets σ rho np).1))) hK hP hD hS hl.1 rfl (Nat.le_of_ble_eq_true rfl) ⟨Nat.zero_le _, Nat.zero_le _⟩ d_Md_packBox_29 (fun r_5 u_5 H locs q_5 hP hD hS => ?_)
  obtain ⟨rfl, hu_5⟩ := q_5
  rw [hu_5] at hP hD
  refine lv_pop hx hb d_Md_packBox_32 rfl ?_
  refine lv_iload_n hx hb d_Md_packBox_33 rfl (lv_at hl 0 rfl) ?_
  exact W.iret (v := nI c1) hx hb hr (fun U hU hW => ⟨⟨nI c1, (mPk ((mSets σ rho np).1) ord (nI sx1) c1 np).1, rfl, by exact ⟨rfl, rfl⟩, by rw [hU]; exact hP, hD⟩, hS.F hU⟩) hS.2.2 d_Md_packBox_34
end
section
def mShOK (σ : Nat → Nat → Int32) (np nbx : Nat) (rho sx cx : Nat → Nat) : Prop := (∀ q, q < np → σ 26 q = nI (rho q) ∧ rho q < nbx) ∧ nbx ≤ 8 ∧ σ 25 0 = nI nbx ∧ (∀ b, b < nbx → (mSets σ rho np).1 28 b = nI (sx b) ∧ sx b < 256 ∧ σ 23 (sx b) = nI (cx b) ∧ cx b < 4) ∧ (mSets σ rho np).2 = nbx
def mCostR (σ : Nat → Nat → Int32) (np nbx : Nat) (rho sx : Nat → Nat) : Int32 := if σ 24 0 = 0 then 0 else mCost (mSets (gSt σ 0 0 0) rho np).1 sx nbx 0 0
def mCostU (σ : Nat → Nat → Int32) (np : Nat) (rho : Nat → Nat) : Nat → Nat → Int32 := if σ 24 0 = 0 then gSt σ 0 0 1 else (mSets (gSt σ 0 0 0) rho np).1
def mRaiC (σ : Nat → Nat → Int32) (nbx : Nat) (bv rm : Int32) : Int32 := if σ 24 0 = 0 then 1 else if mIn bv 0 (nI nbx - 1) = 0 then 2 else if mIn rm 1 1000 = 0 then 3 else 0
def mRaiV (σ : Nat → Nat → Int32) (c1 : Nat) (rm : Int32) : Int32 := if rm * rm < σ 4 c1 * σ 4 c1 + σ 5 c1 * σ 5 c1 then 0 else 1
def mRaiR (σ : Nat → Nat → Int32) (nbx : Nat) (cx : Nat → Nat) (bv rm : Int32) : Int32 := if mRaiC σ nbx bv rm = 0 then mRaiV σ (cx bv.toNatClampNeg) rm else 0
def mRaiU (σ : Nat → Nat → Int32) (np nbx : Nat) (rho ord sx cx : Nat → Nat) (bv rm : Int32) : Nat → Nat → Int32 := if mRaiC σ nbx bv rm = 0 then mBoxU (gSt σ 0 0 0) rho ord sx cx np bv.toNatClampNeg else gSt σ 0 0 (mRaiC σ nbx bv rm)
def mPalC (σ : Nat → Nat → Int32) (lm : Int32) : Int32 := if σ 24 0 = 0 then 1 else if mIn lm 1 1000000 = 0 then 2 else 0
def mPal (own : Nat → Int32) (lm : Int32) : Nat → Int32 × Int32
  | 0 => (0, 0)
  | b + 1 => if (mPal own lm b).1 ≤ 0 then ((mPal own lm b).1 + 1, own b) else if lm < (mPal own lm b).2 + own b then ((mPal own lm b).1 + 1, own b) else ((mPal own lm b).1 + 0, (mPal own lm b).2 + own b)
def mPalR (σ : Nat → Nat → Int32) (np nbx : Nat) (rho sx : Nat → Nat) (lm : Int32) : Int32 := if mPalC σ lm = 0 then (mPal (fun b => mGrams (mSets (gSt σ 0 0 0) rho np).1 (nI (sx b)) np) lm nbx).1 else 0
def mPalU (σ : Nat → Nat → Int32) (np : Nat) (rho : Nat → Nat) (lm : Int32) : Nat → Nat → Int32 := if mPalC σ lm = 0 then (mSets (gSt σ 0 0 0) rho np).1 else gSt σ 0 0 (mPalC σ lm)
def mLy (τ : Nat → Nat → Int32) (j : Nat) : Nat → Int32
  | 0 => 0
  | k + 1 => if mBelow τ k j = 0 then mLy τ j k else mLy τ j k + 1
def mLz (τ : Nat → Nat → Int32) (j : Nat) : Nat → Int32
  | 0 => 0
  | k + 1 => if mBelow τ k j = 0 then mLz τ j k else mLz τ j k + τ 19 k
def mAtC (σ : Nat → Nat → Int32) (np : Nat) (pt wh : Int32) : Int32 := if σ 24 0 = 0 then 1 else if mIn pt 0 (nI np - 1) = 0 then 2 else if mIn wh 0 3 = 0 then 2 else 0
def mAtV (τ : Nat → Nat → Int32) (q lp L bq : Nat) (wh : Int32) : Int32 := if ¬ wh = 0 then (if ¬ wh = 1 then (if ¬ wh = 2 then mLz τ lp L else τ 16 q) else mLy τ lp L) else nI bq
def mAtR (σ : Nat → Nat → Int32) (np : Nat) (rho ord sx cx Lf lpf : Nat → Nat) (pt wh : Int32) : Int32 := if mAtC σ np pt wh = 0 then mAtV (mBoxU (gSt σ 0 0 0) rho ord sx cx np (rho pt.toNatClampNeg)) pt.toNatClampNeg (lpf pt.toNatClampNeg) (Lf pt.toNatClampNeg) (rho pt.toNatClampNeg) wh else 0
def mAtU (σ : Nat → Nat → Int32) (np : Nat) (rho ord sx cx : Nat → Nat) (pt wh : Int32) : Nat → Nat → Int32 := if mAtC σ np pt wh = 0 then mBoxU (gSt σ 0 0 0) rho ord sx cx np (rho pt.toNatClampNeg) else gSt σ 0 0 (mAtC σ np pt wh)
def mAtOK (τ : Nat → Nat → Int32) (q L lp : Nat) : Prop := τ 17 0 = nI L ∧ L ≤ 8 ∧ τ 15 q = nI lp ∧ lp < 8 ∧ ∀ i, τ 22 i = 0 ∨ τ 22 i = 1

theorem gg_Md_148 (w0 : Cond) : GoodIn (w0 :: gBig) (wsV R_Md 148 R_Md y_Md_costOf (.code y_Md_costOf b_Md_costOf 4 (some .int) :: gBig)) := gGoodV (gIn k_829 (by decide +kernel)) (gIn k_831 (by decide +kernel)) (gInP (List.mem_of_getElem? (i := 23) (by decide +kernel)) (by decide +kernel)) (gIn k_9 (by decide +kernel)) (gIn k_832 (by decide +kernel))
theorem gg_Md_155 (w0 : Cond) : GoodIn (w0 :: gBig) (wsV R_Md 155 R_Md y_Md_packBox (.code y_Md_packBox b_Md_packBox 4 (some .int) :: gBig)) := gGoodV (gIn k_841 (by decide +kernel)) (gIn k_843 (by decide +kernel)) (gInP (List.mem_of_getElem? (i := 25) (by decide +kernel)) (by decide +kernel)) (gIn k_9 (by decide +kernel)) (gIn k_844 (by decide +kernel))
theorem gg_Md_161 (w0 : Cond) : GoodIn (w0 :: gBig) (wsV R_Md 161 R_Md y_Md_gramsOf (.code y_Md_gramsOf b_Md_gramsOf 4 (some .int) :: gBig)) := gGoodV (gIn k_853 (by decide +kernel)) (gIn k_855 (by decide +kernel)) (gInP (List.mem_of_getElem? (i := 27) (by decide +kernel)) (by decide +kernel)) (gIn k_9 (by decide +kernel)) (gIn k_856 (by decide +kernel))
set_option maxHeartbeats 4000000 in
set_option maxRecDepth 100000 in
theorem c_Md_cost (l : Launch) (D : va_G) (t : Nat → ClassId) (a : Nat → Nat) (σ : Nat → Nat → Int32) (np nbx : Nat) (rho sx cx : Nat → Nat) (hN : σ 8 0 = nI np) (hN8 : np ≤ 8) (hsh : ¬ σ 24 0 = 0 → mShOK (gSt σ 0 0 0) np nbx rho sx cx) : gMi l D t y_Md_cost b_Md_cost 1 (some .int) 1 [.ref (a 0)] (wMd t a σ) (wMd t a) (fun r u => r = mCostR σ np nbx rho sx ∧ u = mCostU σ np rho) := by
  intro A
  refine Met.ofW (cc := b_Md_cost) (maxL := 1) (ret := (some .int)) (by decide) rfl ?_
  intro p e s m args below meth c s₁ B hml hv
  obtain ⟨rfl, hK, hP, hD⟩ := hv
  have hx := B.exec
  have hb := B.bytes
  have hr := B.returns
  have hts := atoms_spec (ws := .code y_Md_cost b_Md_cost 1 (some .int) :: gBig) B.pre
  have hown : s.vm.findClass R_Md = some m.cls := findClass_of_methodNamed B.named
  have hlocks := B.notSynchronized
  have hS : va_S A s.heap s.heap [] := va_S.rf
  have hl := lv_entry ([.ref (a 0)]) (n := 1) (Nat.le_of_ble_eq_true rfl)
  rw [lg_entry_eq]
  generalize (lg_sl ([.ref (a 0)]) ++ List.replicate (1 - (lg_sl ([.ref (a 0)])).length) Slot.unset).toArray = ls at hl ⊢
  have hl : lv_has ls 1 [(0, .ref (a 0))] := hl
  show gGo l p e s m below meth c D t A 1 [.ref (a 0)] (wMd t a) (fun r u => r = mCostR σ np nbx rho sx ∧ u = mCostU σ np rho) s.heap [] (F0 m 0 ls [])
  refine lv_aload_n hx hb d_Md_cost_0 rfl (lv_at hl 0 rfl) ?_
  refine lv_aload_n hx hb d_Md_cost_1 rfl (lv_at hl 0 rfl) ?_
  refine va_get (D := D) (ci := 7) (v := .int (σ 24 0)) (C := R_Md) (T := F_Md) (N := 34) hx hb hts (fun w h => List.mem_cons_of_mem _ (i_Md w h)) hown hK.1 hP 0 (wMd_0 t a σ) rfl 24 (by decide) (hts (.fieldLink R_Md 108 "FlatBoxesModel" "hasShares" "Z") (List.mem_cons_of_mem _ (gIn k_690 (by decide +kernel)))) (fun _ h9 => h9) rfl d_Md_cost_2 ?_
  refine lv_if_eq (tgt := 12) hx hb d_Md_cost_5 (by decide) (fun c_1 => ?_) (fun c_1 => ?_)
  · 
    refine lv_iconst (v := 1) hx hb d_Md_cost_12 (by decide) ?_
    refine va_put (D := D) (ci := 7) (v := .int 1) (ty := .int) (C := R_Md) (T := F_Md) (N := 34) hx hb hts (fun w h => List.mem_cons_of_mem _ (i_Md w h)) t_Md t_Md_ok n_Md hown hK.1 hP hD hS 0 (wMd_0 t a σ) rfl 0 (by decide) (hts (.fieldLink R_Md 93 "FlatBoxesModel" "code" "I") (List.mem_cons_of_mem _ (gIn k_666 (by decide +kernel)))) (fun _ h9 => h9) rfl (by decide +kernel) rfl rfl (Nat.le_of_ble_eq_true rfl) d_Md_cost_13 (fun H locs hP hD hS => ?_)
    have hP : va_P D gCl (wMd t a (gSt σ 0 0 1)) H := hP
    have hD : va_D A (wMd t a (gSt σ 0 0 1)) := hD
    refine lv_aload_n hx hb d_Md_cost_16 rfl (lv_at hl 0 rfl) ?_
    refine va_get (D := D) (ci := 7) (v := .int ((gSt σ 0 0 1) 0 0)) (C := R_Md) (T := F_Md) (N := 34) hx hb hts (fun w h => List.mem_cons_of_mem _ (i_Md w h)) hown hK.1 hP 0 (wMd_0 t a (gSt σ 0 0 1)) rfl 0 (by decide) (hts (.fieldLink R_Md 93 "FlatBoxesModel" "code" "I") (List.mem_cons_of_mem _ (gIn k_666 (by decide +kernel)))) (fun _ h9 => h9) rfl d_Md_cost_17 ?_
    refine lv_topi (fun v_2 e_2 => ?_)
    obtain rfl : 1 = v_2 := (e_2.trans (rfl)).symm
    refine lv_if_le (tgt := 27) hx hb d_Md_cost_20 (by decide) (fun c_3 => ?_) (fun c_3 => ?_)
    · 
      exact absurd c_3 (by decide)
    · 
      refine lv_iconst (v := 0) hx hb d_Md_cost_23 (by decide) ?_
      refine lv_goto (tgt := 39) hx hb d_Md_cost_24 (by decide) ?_
      exact W.iret (v := 0) hx hb hr (fun U hU hW => ⟨⟨0, gSt σ 0 0 1, rfl, by exact ⟨by simp [mCostR, c_1, c_3], by simp [mCostU, c_1, c_3]⟩, by rw [hU]; exact hP, hD⟩, hS.F hU⟩) hS.2.2 d_Md_cost_39
  · 
    refine lv_iconst (v := 0) hx hb d_Md_cost_8 (by decide) ?_
    refine lv_goto (tgt := 13) hx hb d_Md_cost_9 (by decide) ?_
    refine va_put (D := D) (ci := 7) (v := .int 0) (ty := .int) (C := R_Md) (T := F_Md) (N := 34) hx hb hts (fun w h => List.mem_cons_of_mem _ (i_Md w h)) t_Md t_Md_ok n_Md hown hK.1 hP hD hS 0 (wMd_0 t a σ) rfl 0 (by decide) (hts (.fieldLink R_Md 93 "FlatBoxesModel" "code" "I") (List.mem_cons_of_mem _ (gIn k_666 (by decide +kernel)))) (fun _ h9 => h9) rfl (by decide +kernel) rfl rfl (Nat.le_of_ble_eq_true rfl) d_Md_cost_13 (fun H locs hP hD hS => ?_)
    have hP : va_P D gCl (wMd t a (gSt σ 0 0 0)) H := hP
    have hD : va_D A (wMd t a (gSt σ 0 0 0)) := hD
    refine lv_aload_n hx hb d_Md_cost_16 rfl (lv_at hl 0 rfl) ?_
    refine va_get (D := D) (ci := 7) (v := .int ((gSt σ 0 0 0) 0 0)) (C := R_Md) (T := F_Md) (N := 34) hx hb hts (fun w h => List.mem_cons_of_mem _ (i_Md w h)) hown hK.1 hP 0 (wMd_0 t a (gSt σ 0 0 0)) rfl 0 (by decide) (hts (.fieldLink R_Md 93 "FlatBoxesModel" "code" "I") (List.mem_cons_of_mem _ (gIn k_666 (by decide +kernel)))) (fun _ h9 => h9) rfl d_Md_cost_17 ?_
    refine lv_topi (fun v_4 e_4 => ?_)
    obtain rfl : 0 = v_4 := (e_4.trans (rfl)).symm
    refine lv_if_le (tgt := 27) hx hb d_Md_cost_20 (by decide) (fun c_5 => ?_) (fun c_5 => ?_)
    · 
      have hS1 := hsh c_1
      refine lv_aload_n hx hb d_Md_cost_27 rfl (lv_at hl 0 rfl) ?_
      refine lv_aload_n hx hb d_Md_cost_28 rfl (lv_at hl 0 rfl) ?_
      refine lv_aload_n hx hb d_Md_cost_29 rfl (lv_at hl 0 rfl) ?_
      refine va_get (D := D) (ci := 7) (v := .ref (a 26)) (C := R_Md) (T := F_Md) (N := 34) hx hb hts (fun w h => List.mem_cons_of_mem _ (i_Md w h)) hown hK.1 hP 0 (wMd_0 t a (gSt σ 0 0 0)) rfl 26 (by decide) (hts (.fieldLink R_Md 68 "FlatBoxesModel" "shares" "[I") (List.mem_cons_of_mem _ (gIn k_692 (by decide +kernel)))) (fun _ h9 => h9) rfl d_Md_cost_30 ?_
      refine g_vi (k := 1) (As := [.ref (a 26)]) (rest := [.ref (a 0)]) (own := R_Md) (C := R_Md) (index := 144) ⟨hx, hb, hml, hown, hts⟩ (c_Md_setsOf_s l D t a (gSt σ 0 0 0) np rho hN hN8 (fun q hq => ⟨(hS1.1 q hq).1, by have := (hS1.1 q hq).2; have := hS1.2.1; omega⟩)) (gg_Md_144 _) (by decide +kernel) ⟨Nat.le_of_ble_eq_true rfl, Nat.le_of_ble_eq_true rfl⟩ rfl (va_recv hK.1 hP (ci := 7) (q0 := 0) rfl (wMd_0 t a (gSt σ 0 0 0))) hK hP hD hS hl.1 rfl (Nat.le_of_ble_eq_true rfl) ⟨Nat.zero_le _, Nat.zero_le _⟩ d_Md_cost_33 (fun r_6 u_6 H locs q_6 hP hD hS => ?_)
      obtain ⟨rfl, hu_6⟩ := q_6
      rw [hu_6] at hP hD
      refine lv_topi (fun v_7 e_7 => ?_)
      obtain rfl : nI nbx = v_7 := (e_7.trans (by rw [hS1.2.2.2.2])).symm
      refine g_vi (k := 1) (As := [.int (nI nbx)]) (rest := []) (own := R_Md) (C := R_Md) (index := 148) ⟨hx, hb, hml, hown, hts⟩ (c_Md_costOf l D t a ((mSets (gSt σ 0 0 0) rho np).1) nbx hS1.2.1 sx (fun b hb => ⟨(hS1.2.2.2.1 b hb).1, (hS1.2.2.2.1 b hb).2.1⟩) (fun b hb => Or.inr ⟨cx b, (hS1.2.2.2.1 b hb).2.2.2, (congrFun (mSets_fix _ rho (by decide) np) _).trans (hS1.2.2.2.1 b hb).2.2.1⟩)) (gg_Md_148 _) (by decide +kernel) ⟨Nat.le_of_ble_eq_true rfl, Nat.le_of_ble_eq_true rfl⟩ rfl (va_recv hK.1 hP (ci := 7) (q0 := 0) rfl (wMd_0 t a ((mSets (gSt σ 0 0 0) rho np).1))) hK hP hD hS hl.1 rfl (Nat.le_of_ble_eq_true rfl) ⟨Nat.zero_le _, Nat.zero_le _⟩ d_Md_cost_36 (fun r_8 u_8 H locs q_8 hP hD hS => ?_)
      obtain ⟨rfl, hu_8⟩ := q_8
      rw [hu_8] at hP hD
      exact W.iret (v := mCost ((mSets (gSt σ 0 0 0) rho np).1) sx nbx 0 0) hx hb hr (fun U hU hW => ⟨⟨mCost ((mSets (gSt σ 0 0 0) rho np).1) sx nbx 0 0, (mSets (gSt σ 0 0 0) rho np).1, rfl, by exact ⟨by simp [mCostR, c_1, c_5], by simp [mCostU, c_1, c_5]⟩, by rw [hU]; exact hP, hD⟩, hS.F hU⟩) hS.2.2 d_Md_cost_39
    · 
      exact absurd c_5 (by decide)
set_option maxHeartbeats 4000000 in
set_option maxRecDepth 100000 in
theorem c_Md_raised (l : Launch) (D : va_G) (t : Nat → ClassId) (a : Nat → Nat) (σ : Nat → Nat → Int32) (bv rm : Int32) (ord : Nat → Nat) (np nbx : Nat) (rho sx cx : Nat → Nat) (hN : σ 8 0 = nI np) (hN8 : np ≤ 8) (hsh : ¬ σ 24 0 = 0 → mShOK (gSt σ 0 0 0) np nbx rho sx cx) (hord : ∀ k, k < np → ord k < np ∧ mBT (σ 11) np (nI k) np 0 = nI (ord k)) : gMi l D t y_Md_raised b_Md_raised 4 (some .boolean) 3 [.ref (a 0), .int bv, .int rm] (wMd t a σ) (wMd t a) (fun r u => r = mRaiR σ nbx cx bv rm ∧ u = mRaiU σ np nbx rho ord sx cx bv rm) := by
  intro A
  refine Met.ofW (cc := b_Md_raised) (maxL := 4) (ret := (some .boolean)) (by decide) rfl ?_
  intro p e s m args below meth c s₁ B hml hv
  obtain ⟨rfl, hK, hP, hD⟩ := hv
  have hx := B.exec
  have hb := B.bytes
  have hr := B.returns
  have hts := atoms_spec (ws := .code y_Md_raised b_Md_raised 4 (some .boolean) :: gBig) B.pre
  have hown : s.vm.findClass R_Md = some m.cls := findClass_of_methodNamed B.named
  have hlocks := B.notSynchronized
  have hS : va_S A s.heap s.heap [] := va_S.rf
  have hl := lv_entry ([.ref (a 0), .int bv, .int rm]) (n := 4) (Nat.le_of_ble_eq_true rfl)
  rw [lg_entry_eq]
  generalize (lg_sl ([.ref (a 0), .int bv, .int rm]) ++ List.replicate (4 - (lg_sl ([.ref (a 0), .int bv, .int rm])).length) Slot.unset).toArray = ls at hl ⊢
  have hl : lv_has ls 4 [(0, .ref (a 0)), (1, .int bv), (2, .int rm)] := hl
  show gGo l p e s m below meth c D t A 3 [.ref (a 0), .int bv, .int rm] (wMd t a) (fun r u => r = mRaiR σ nbx cx bv rm ∧ u = mRaiU σ np nbx rho ord sx cx bv rm) s.heap [] (F0 m 0 ls [])
  refine lv_aload_n hx hb d_Md_raised_0 rfl (lv_at hl 0 rfl) ?_
  refine lv_aload_n hx hb d_Md_raised_1 rfl (lv_at hl 0 rfl) ?_
  refine va_get (D := D) (ci := 7) (v := .int (σ 24 0)) (C := R_Md) (T := F_Md) (N := 34) hx hb hts (fun w h => List.mem_cons_of_mem _ (i_Md w h)) hown hK.1 hP 0 (wMd_0 t a σ) rfl 24 (by decide) (hts (.fieldLink R_Md 108 "FlatBoxesModel" "hasShares" "Z") (List.mem_cons_of_mem _ (gIn k_690 (by decide +kernel)))) (fun _ h9 => h9) rfl d_Md_raised_2 ?_
  refine lv_if_ne (tgt := 12) hx hb d_Md_raised_5 (by decide) (fun c_1 => ?_) (fun c_1 => ?_)
  · 
    refine lv_iload_n hx hb d_Md_raised_12 rfl (lv_at hl 1 rfl) ?_
    refine lv_iconst (v := 0) hx hb d_Md_raised_13 (by decide) ?_
    refine lv_aload_n hx hb d_Md_raised_14 rfl (lv_at hl 0 rfl) ?_
    refine va_get (D := D) (ci := 7) (v := .int (σ 25 0)) (C := R_Md) (T := F_Md) (N := 34) hx hb hts (fun w h => List.mem_cons_of_mem _ (i_Md w h)) hown hK.1 hP 0 (wMd_0 t a σ) rfl 25 (by decide) (hts (.fieldLink R_Md 141 "FlatBoxesModel" "boxes" "I") (List.mem_cons_of_mem _ (gIn k_691 (by decide +kernel)))) (fun _ h9 => h9) rfl d_Md_raised_15 ?_
    refine lv_topi (fun v_2 e_2 => ?_)
    obtain rfl : nI nbx = v_2 := (e_2.trans ((hsh c_1).2.2.1)).symm
    refine lv_iconst (v := 1) hx hb d_Md_raised_18 (by decide) ?_
    refine lv_isub hx hb d_Md_raised_19 ?_
    refine g_si (k := 3) (As := [.int bv, .int 0, .int ((nI nbx) - 1)]) (rest := [.ref (a 0)]) (own := R_Md) (index := 96) ⟨hx, hb, hml, hown, hts⟩ (c_Md_in l D t a σ bv 0 ((nI nbx) - 1)) (gg_Md_96 _) (by decide +kernel) ⟨Nat.le_of_ble_eq_true rfl, Nat.le_of_ble_eq_true rfl⟩ rfl hK hP hD hS hl.1 rfl (Nat.le_of_ble_eq_true rfl) ⟨Nat.zero_le _, Nat.zero_le _⟩ d_Md_raised_20 (fun r_3 u_3 H locs q_3 hP hD hS => ?_)
    obtain ⟨rfl, hu_3⟩ := q_3
    rw [hu_3] at hP hD
    refine lv_if_ne (tgt := 30) hx hb d_Md_raised_23 (by decide) (fun c_4 => ?_) (fun c_4 => ?_)
    · 
      refine lv_iload_n hx hb d_Md_raised_30 rfl (lv_at hl 2 rfl) ?_
      refine lv_iconst (v := 1) hx hb d_Md_raised_31 (by decide) ?_
      refine lv_sipush (v := 1000) hx hb d_Md_raised_32 (by decide) ?_
      refine g_si (k := 3) (As := [.int rm, .int 1, .int 1000]) (rest := [.ref (a 0)]) (own := R_Md) (index := 96) ⟨hx, hb, hml, hown, hts⟩ (c_Md_in l D t a σ rm 1 1000) (gg_Md_96 _) (by decide +kernel) ⟨Nat.le_of_ble_eq_true rfl, Nat.le_of_ble_eq_true rfl⟩ rfl hK hP hD hS hl.1 rfl (Nat.le_of_ble_eq_true rfl) ⟨Nat.zero_le _, Nat.zero_le _⟩ d_Md_raised_35 (fun r_5 u_5 H locs q_5 hP hD hS => ?_)
      obtain ⟨rfl, hu_5⟩ := q_5
      rw [hu_5] at hP hD
      refine lv_if_ne (tgt := 45) hx hb d_Md_raised_38 (by decide) (fun c_6 => ?_) (fun c_6 => ?_)
      · 
        refine lv_iconst (v := 0) hx hb d_Md_raised_45 (by decide) ?_
        refine va_put (D := D) (ci := 7) (v := .int 0) (ty := .int) (C := R_Md) (T := F_Md) (N := 34) hx hb hts (fun w h => List.mem_cons_of_mem _ (i_Md w h)) t_Md t_Md_ok n_Md hown hK.1 hP hD hS 0 (wMd_0 t a σ) rfl 0 (by decide) (hts (.fieldLink R_Md 93 "FlatBoxesModel" "code" "I") (List.mem_cons_of_mem _ (gIn k_666 (by decide +kernel)))) (fun _ h9 => h9) rfl (by decide +kernel) rfl rfl (Nat.le_of_ble_eq_true rfl) d_Md_raised_46 (fun H locs hP hD hS => ?_)
        have hP : va_P D gCl (wMd t a (gSt σ 0 0 0)) H := hP
        have hD : va_D A (wMd t a (gSt σ 0 0 0)) := hD
        refine lv_aload_n hx hb d_Md_raised_49 rfl (lv_at hl 0 rfl) ?_
        refine va_get (D := D) (ci := 7) (v := .int ((gSt σ 0 0 0) 0 0)) (C := R_Md) (T := F_Md) (N := 34) hx hb hts (fun w h => List.mem_cons_of_mem _ (i_Md w h)) hown hK.1 hP 0 (wMd_0 t a (gSt σ 0 0 0)) rfl 0 (by decide) (hts (.fieldLink R_Md 93 "FlatBoxesModel" "code" "I") (List.mem_cons_of_mem _ (gIn k_666 (by decide +kernel)))) (fun _ h9 => h9) rfl d_Md_raised_50 ?_
        refine lv_topi (fun v_7 e_7 => ?_)
        obtain rfl : 0 = v_7 := (e_7.trans (rfl)).symm
        refine lv_if_le (tgt := 58) hx hb d_Md_raised_53 (by decide) (fun c_8 => ?_) (fun c_8 => ?_)
        · 
          have hS1 := hsh c_1
          have hn8 := hS1.2.1
          obtain ⟨b, hb9, rfl⟩ := mIn_nat (n := nbx) (by omega) c_4
          have hS2 := hS1.2.2.2.1 b hb9
          have hc4 := hS2.2.2.2
          refine lv_aload_n hx hb d_Md_raised_58 rfl (lv_at hl 0 rfl) ?_
          refine lv_iload_n hx hb d_Md_raised_59 rfl (lv_at hl 1 rfl) ?_
          refine g_vi (k := 1) (As := [.int (nI b)]) (rest := []) (own := R_Md) (C := R_Md) (index := 155) ⟨hx, hb, hml, hown, hts⟩ (c_Md_packBox l D t a (gSt σ 0 0 0) b np (sx b) (cx b) rho ord hN hN8 (by omega) (fun q hq => ⟨(hS1.1 q hq).1, by have := (hS1.1 q hq).2; have := hS1.2.1; omega⟩) hS2.1 hS2.2.1 hS2.2.2.1 hS2.2.2.2 hord) (gg_Md_155 _) (by decide +kernel) ⟨Nat.le_of_ble_eq_true rfl, Nat.le_of_ble_eq_true rfl⟩ rfl (va_recv hK.1 hP (ci := 7) (q0 := 0) rfl (wMd_0 t a (gSt σ 0 0 0))) hK hP hD hS hl.1 rfl (Nat.le_of_ble_eq_true rfl) ⟨Nat.zero_le _, Nat.zero_le _⟩ d_Md_raised_60 (fun r_9 u_9 H locs q_9 hP hD hS => ?_)
          obtain ⟨rfl, hu_9⟩ := q_9
          rw [hu_9] at hP hD
          have hP : va_P D gCl (wMd t a (mBoxU (gSt σ 0 0 0) rho ord sx cx np b)) H := hP
          have hD : va_D A (wMd t a (mBoxU (gSt σ 0 0 0) rho ord sx cx np b)) := hD
          refine lv_istore_n (lv' := [(3, .int (nI (cx b))), (0, .ref (a 0)), (1, .int (nI b)), (2, .int rm)]) hx hb d_Md_raised_63 rfl hl (by decide) rfl (fun ls hl => ?_)
          refine lv_aload_n hx hb d_Md_raised_64 rfl (lv_at hl 1 rfl) ?_
          refine va_get (D := D) (ci := 7) (v := .ref (a 4)) (C := R_Md) (T := F_Md) (N := 34) hx hb hts (fun w h => List.mem_cons_of_mem _ (i_Md w h)) hown hK.1 hP 0 (wMd_0 t a (mBoxU (gSt σ 0 0 0) rho ord sx cx np b)) rfl 4 (by decide) (hts (.fieldLink R_Md 13 "FlatBoxesModel" "depths" "[I") (List.mem_cons_of_mem _ (gIn k_670 (by decide +kernel)))) (fun _ h9 => h9) rfl d_Md_raised_65 ?_
          refine lv_iload_n hx hb d_Md_raised_68 rfl (lv_at hl 0 rfl) ?_
          refine g_iald hx hb hK.1 hP 2 0 (wMd_4 t a (mBoxU (gSt σ 0 0 0) rho ord sx cx np b)) rfl (cx b) (rfl) (by omega) (by decide) d_Md_raised_69 ?_
          refine lv_topi (fun v_10 e_10 => ?_)
          obtain rfl : σ 4 (cx b) = v_10 := (e_10.trans (congrFun (mBoxU_fix (gSt σ 0 0 0) rho ord sx cx np b (by omega) (by decide)) _)).symm
          refine lv_aload_n hx hb d_Md_raised_70 rfl (lv_at hl 1 rfl) ?_
          refine va_get (D := D) (ci := 7) (v := .ref (a 4)) (C := R_Md) (T := F_Md) (N := 34) hx hb hts (fun w h => List.mem_cons_of_mem _ (i_Md w h)) hown hK.1 hP 0 (wMd_0 t a (mBoxU (gSt σ 0 0 0) rho ord sx cx np b)) rfl 4 (by decide) (hts (.fieldLink R_Md 13 "FlatBoxesModel" "depths" "[I") (List.mem_cons_of_mem _ (gIn k_670 (by decide +kernel)))) (fun _ h9 => h9) rfl d_Md_raised_71 ?_
          refine lv_iload_n hx hb d_Md_raised_74 rfl (lv_at hl 0 rfl) ?_
          refine g_iald hx hb hK.1 hP 2 0 (wMd_4 t a (mBoxU (gSt σ 0 0 0) rho ord sx cx np b)) rfl (cx b) (rfl) (by omega) (by decide) d_Md_raised_75 ?_
          refine lv_topi (fun v_11 e_11 => ?_)
          obtain rfl : σ 4 (cx b) = v_11 := (e_11.trans (congrFun (mBoxU_fix (gSt σ 0 0 0) rho ord sx cx np b (by omega) (by decide)) _)).symm
          refine lv_imul hx hb d_Md_raised_76 ?_
          refine lv_aload_n hx hb d_Md_raised_77 rfl (lv_at hl 1 rfl) ?_
          refine va_get (D := D) (ci := 7) (v := .ref (a 5)) (C := R_Md) (T := F_Md) (N := 34) hx hb hts (fun w h => List.mem_cons_of_mem _ (i_Md w h)) hown hK.1 hP 0 (wMd_0 t a (mBoxU (gSt σ 0 0 0) rho ord sx cx np b)) rfl 5 (by decide) (hts (.fieldLink R_Md 16 "FlatBoxesModel" "heights" "[I") (List.mem_cons_of_mem _ (gIn k_671 (by decide +kernel)))) (fun _ h9 => h9) rfl d_Md_raised_78 ?_
          refine lv_iload_n hx hb d_Md_raised_81 rfl (lv_at hl 0 rfl) ?_
          refine g_iald hx hb hK.1 hP 3 0 (wMd_5 t a (mBoxU (gSt σ 0 0 0) rho ord sx cx np b)) rfl (cx b) (rfl) (by omega) (by decide) d_Md_raised_82 ?_
          refine lv_topi (fun v_12 e_12 => ?_)
          obtain rfl : σ 5 (cx b) = v_12 := (e_12.trans (congrFun (mBoxU_fix (gSt σ 0 0 0) rho ord sx cx np b (by omega) (by decide)) _)).symm
          refine lv_aload_n hx hb d_Md_raised_83 rfl (lv_at hl 1 rfl) ?_
          refine va_get (D := D) (ci := 7) (v := .ref (a 5)) (C := R_Md) (T := F_Md) (N := 34) hx hb hts (fun w h => List.mem_cons_of_mem _ (i_Md w h)) hown hK.1 hP 0 (wMd_0 t a (mBoxU (gSt σ 0 0 0) rho ord sx cx np b)) rfl 5 (by decide) (hts (.fieldLink R_Md 16 "FlatBoxesModel" "heights" "[I") (List.mem_cons_of_mem _ (gIn k_671 (by decide +kernel)))) (fun _ h9 => h9) rfl d_Md_raised_84 ?_
          refine lv_iload_n hx hb d_Md_raised_87 rfl (lv_at hl 0 rfl) ?_
          refine g_iald hx hb hK.1 hP 3 0 (wMd_5 t a (mBoxU (gSt σ 0 0 0) rho ord sx cx np b)) rfl (cx b) (rfl) (by omega) (by decide) d_Md_raised_88 ?_
          refine lv_topi (fun v_13 e_13 => ?_)
          obtain rfl : σ 5 (cx b) = v_13 := (e_13.trans (congrFun (mBoxU_fix (gSt σ 0 0 0) rho ord sx cx np b (by omega) (by decide)) _)).symm
          refine lv_imul hx hb d_Md_raised_89 ?_
          refine lv_iadd hx hb d_Md_raised_90 ?_
          refine lv_iload_n hx hb d_Md_raised_91 rfl (lv_at hl 3 rfl) ?_
          refine lv_iload_n hx hb d_Md_raised_92 rfl (lv_at hl 3 rfl) ?_
          refine lv_imul hx hb d_Md_raised_93 ?_
          refine lv_icmp_gt (tgt := 101) hx hb d_Md_raised_94 (by decide) (fun c_14 => ?_) (fun c_14 => ?_)
          · 
            refine lv_iconst (v := 0) hx hb d_Md_raised_101 (by decide) ?_
            exact W.zret (v := 0) (ty := .boolean) hx hb hr (rfl) (fun U hU hW => ⟨⟨0, mBoxU (gSt σ 0 0 0) rho ord sx cx np b, rfl, by exact ⟨by simp [mRaiR, mRaiC, mRaiV, nI_clamp (show b < 2 ^ 31 by omega), c_1, c_4, c_6, c_8, c_14], by simp [mRaiU, mRaiC, nI_clamp (show b < 2 ^ 31 by omega), c_1, c_4, c_6, c_8, c_14]⟩, by rw [hU]; exact hP, hD⟩, hS.F hU⟩) hS.2.2 d_Md_raised_102
          · 
            refine lv_iconst (v := 1) hx hb d_Md_raised_97 (by decide) ?_
            refine lv_goto (tgt := 102) hx hb d_Md_raised_98 (by decide) ?_
            exact W.zret (v := 1) (ty := .boolean) hx hb hr (rfl) (fun U hU hW => ⟨⟨1, mBoxU (gSt σ 0 0 0) rho ord sx cx np b, rfl, by exact ⟨by simp [mRaiR, mRaiC, mRaiV, nI_clamp (show b < 2 ^ 31 by omega), c_1, c_4, c_6, c_8, c_14], by simp [mRaiU, mRaiC, nI_clamp (show b < 2 ^ 31 by omega), c_1, c_4, c_6, c_8, c_14]⟩, by rw [hU]; exact hP, hD⟩, hS.F hU⟩) hS.2.2 d_Md_raised_102
        · 
          exact absurd c_8 (by decide)
      · 
        refine lv_iconst (v := 3) hx hb d_Md_raised_41 (by decide) ?_
        refine lv_goto (tgt := 46) hx hb d_Md_raised_42 (by decide) ?_
        refine va_put (D := D) (ci := 7) (v := .int 3) (ty := .int) (C := R_Md) (T := F_Md) (N := 34) hx hb hts (fun w h => List.mem_cons_of_mem _ (i_Md w h)) t_Md t_Md_ok n_Md hown hK.1 hP hD hS 0 (wMd_0 t a σ) rfl 0 (by decide) (hts (.fieldLink R_Md 93 "FlatBoxesModel" "code" "I") (List.mem_cons_of_mem _ (gIn k_666 (by decide +kernel)))) (fun _ h9 => h9) rfl (by decide +kernel) rfl rfl (Nat.le_of_ble_eq_true rfl) d_Md_raised_46 (fun H locs hP hD hS => ?_)
        have hP : va_P D gCl (wMd t a (gSt σ 0 0 3)) H := hP
        have hD : va_D A (wMd t a (gSt σ 0 0 3)) := hD
        refine lv_aload_n hx hb d_Md_raised_49 rfl (lv_at hl 0 rfl) ?_
        refine va_get (D := D) (ci := 7) (v := .int ((gSt σ 0 0 3) 0 0)) (C := R_Md) (T := F_Md) (N := 34) hx hb hts (fun w h => List.mem_cons_of_mem _ (i_Md w h)) hown hK.1 hP 0 (wMd_0 t a (gSt σ 0 0 3)) rfl 0 (by decide) (hts (.fieldLink R_Md 93 "FlatBoxesModel" "code" "I") (List.mem_cons_of_mem _ (gIn k_666 (by decide +kernel)))) (fun _ h9 => h9) rfl d_Md_raised_50 ?_
        refine lv_topi (fun v_15 e_15 => ?_)
        obtain rfl : 3 = v_15 := (e_15.trans (rfl)).symm
        refine lv_if_le (tgt := 58) hx hb d_Md_raised_53 (by decide) (fun c_16 => ?_) (fun c_16 => ?_)
        · 
          exact absurd c_16 (by decide)
        · 
          refine lv_iconst (v := 0) hx hb d_Md_raised_56 (by decide) ?_
          exact W.zret (v := 0) (ty := .boolean) hx hb hr (rfl) (fun U hU hW => ⟨⟨0, gSt σ 0 0 3, rfl, by exact ⟨by simp [mRaiR, mRaiC, c_1, c_4, c_6, c_16], by simp [mRaiU, mRaiC, c_1, c_4, c_6, c_16]⟩, by rw [hU]; exact hP, hD⟩, hS.F hU⟩) hS.2.2 d_Md_raised_57
    · 
      refine lv_iconst (v := 2) hx hb d_Md_raised_26 (by decide) ?_
      refine lv_goto (tgt := 46) hx hb d_Md_raised_27 (by decide) ?_
      refine va_put (D := D) (ci := 7) (v := .int 2) (ty := .int) (C := R_Md) (T := F_Md) (N := 34) hx hb hts (fun w h => List.mem_cons_of_mem _ (i_Md w h)) t_Md t_Md_ok n_Md hown hK.1 hP hD hS 0 (wMd_0 t a σ) rfl 0 (by decide) (hts (.fieldLink R_Md 93 "FlatBoxesModel" "code" "I") (List.mem_cons_of_mem _ (gIn k_666 (by decide +kernel)))) (fun _ h9 => h9) rfl (by decide +kernel) rfl rfl (Nat.le_of_ble_eq_true rfl) d_Md_raised_46 (fun H locs hP hD hS => ?_)
      have hP : va_P D gCl (wMd t a (gSt σ 0 0 2)) H := hP
      have hD : va_D A (wMd t a (gSt σ 0 0 2)) := hD
      refine lv_aload_n hx hb d_Md_raised_49 rfl (lv_at hl 0 rfl) ?_
      refine va_get (D := D) (ci := 7) (v := .int ((gSt σ 0 0 2) 0 0)) (C := R_Md) (T := F_Md) (N := 34) hx hb hts (fun w h => List.mem_cons_of_mem _ (i_Md w h)) hown hK.1 hP 0 (wMd_0 t a (gSt σ 0 0 2)) rfl 0 (by decide) (hts (.fieldLink R_Md 93 "FlatBoxesModel" "code" "I") (List.mem_cons_of_mem _ (gIn k_666 (by decide +kernel)))) (fun _ h9 => h9) rfl d_Md_raised_50 ?_
      refine lv_topi (fun v_17 e_17 => ?_)
      obtain rfl : 2 = v_17 := (e_17.trans (rfl)).symm
      refine lv_if_le (tgt := 58) hx hb d_Md_raised_53 (by decide) (fun c_18 => ?_) (fun c_18 => ?_)
      · 
        exact absurd c_18 (by decide)
      · 
        refine lv_iconst (v := 0) hx hb d_Md_raised_56 (by decide) ?_
        exact W.zret (v := 0) (ty := .boolean) hx hb hr (rfl) (fun U hU hW => ⟨⟨0, gSt σ 0 0 2, rfl, by exact ⟨by simp [mRaiR, mRaiC, c_1, c_4, c_18], by simp [mRaiU, mRaiC, c_1, c_4, c_18]⟩, by rw [hU]; exact hP, hD⟩, hS.F hU⟩) hS.2.2 d_Md_raised_57
  · 
    refine lv_iconst (v := 1) hx hb d_Md_raised_8 (by decide) ?_
    refine lv_goto (tgt := 46) hx hb d_Md_raised_9 (by decide) ?_
    refine va_put (D := D) (ci := 7) (v := .int 1) (ty := .int) (C := R_Md) (T := F_Md) (N := 34) hx hb hts (fun w h => List.mem_cons_of_mem _ (i_Md w h)) t_Md t_Md_ok n_Md hown hK.1 hP hD hS 0 (wMd_0 t a σ) rfl 0 (by decide) (hts (.fieldLink R_Md 93 "FlatBoxesModel" "code" "I") (List.mem_cons_of_mem _ (gIn k_666 (by decide +kernel)))) (fun _ h9 => h9) rfl (by decide +kernel) rfl rfl (Nat.le_of_ble_eq_true rfl) d_Md_raised_46 (fun H locs hP hD hS => ?_)
    have hP : va_P D gCl (wMd t a (gSt σ 0 0 1)) H := hP
    have hD : va_D A (wMd t a (gSt σ 0 0 1)) := hD
    refine lv_aload_n hx hb d_Md_raised_49 rfl (lv_at hl 0 rfl) ?_
    refine va_get (D := D) (ci := 7) (v := .int ((gSt σ 0 0 1) 0 0)) (C := R_Md) (T := F_Md) (N := 34) hx hb hts (fun w h => List.mem_cons_of_mem _ (i_Md w h)) hown hK.1 hP 0 (wMd_0 t a (gSt σ 0 0 1)) rfl 0 (by decide) (hts (.fieldLink R_Md 93 "FlatBoxesModel" "code" "I") (List.mem_cons_of_mem _ (gIn k_666 (by decide +kernel)))) (fun _ h9 => h9) rfl d_Md_raised_50 ?_
    refine lv_topi (fun v_19 e_19 => ?_)
    obtain rfl : 1 = v_19 := (e_19.trans (rfl)).symm
    refine lv_if_le (tgt := 58) hx hb d_Md_raised_53 (by decide) (fun c_20 => ?_) (fun c_20 => ?_)
    · 
      exact absurd c_20 (by decide)
    · 
      refine lv_iconst (v := 0) hx hb d_Md_raised_56 (by decide) ?_
      exact W.zret (v := 0) (ty := .boolean) hx hb hr (rfl) (fun U hU hW => ⟨⟨0, gSt σ 0 0 1, rfl, by exact ⟨by simp [mRaiR, mRaiC, c_1, c_20], by simp [mRaiU, mRaiC, c_1, c_20]⟩, by rw [hU]; exact hP, hD⟩, hS.F hU⟩) hS.2.2 d_Md_raised_57
set_option maxHeartbeats 4000000 in
set_option maxRecDepth 100000 in
theorem c_Md_pallets (l : Launch) (D : va_G) (t : Nat → ClassId) (a : Nat → Nat) (σ : Nat → Nat → Int32) (lm : Int32) (np nbx : Nat) (rho sx cx : Nat → Nat) (hN : σ 8 0 = nI np) (hN8 : np ≤ 8) (hsh : ¬ σ 24 0 = 0 → mShOK (gSt σ 0 0 0) np nbx rho sx cx) : gMi l D t y_Md_pallets b_Md_pallets 8 (some .int) 2 [.ref (a 0), .int lm] (wMd t a σ) (wMd t a) (fun r u => r = mPalR σ np nbx rho sx lm ∧ u = mPalU σ np rho lm) := by
  intro A
  refine Met.ofW (cc := b_Md_pallets) (maxL := 8) (ret := (some .int)) (by decide) rfl ?_
  intro p e s m args below meth c s₁ B hml hv
  obtain ⟨rfl, hK, hP, hD⟩ := hv
  have hx := B.exec
  have hb := B.bytes
  have hr := B.returns
  have hts := atoms_spec (ws := .code y_Md_pallets b_Md_pallets 8 (some .int) :: gBig) B.pre
  have hown : s.vm.findClass R_Md = some m.cls := findClass_of_methodNamed B.named
  have hlocks := B.notSynchronized
  have hS : va_S A s.heap s.heap [] := va_S.rf
  have hl := lv_entry ([.ref (a 0), .int lm]) (n := 8) (Nat.le_of_ble_eq_true rfl)
  rw [lg_entry_eq]
  generalize (lg_sl ([.ref (a 0), .int lm]) ++ List.replicate (8 - (lg_sl ([.ref (a 0), .int lm])).length) Slot.unset).toArray = ls at hl ⊢
  have hl : lv_has ls 8 [(0, .ref (a 0)), (1, .int lm)] := hl
  show gGo l p e s m below meth c D t A 2 [.ref (a 0), .int lm] (wMd t a) (fun r u => r = mPalR σ np nbx rho sx lm ∧ u = mPalU σ np rho lm) s.heap [] (F0 m 0 ls [])
  have cut_58 : ∀ (n : Nat) (b : Nat) (m1 : Nat) (pn : Int32) (th : Int32) (τ : Nat → Nat → Int32) (H : Heap) (locs : List Loc) (ls : Array Slot), (b ≤ m1) → (m1 ≤ 8) → (m1 + 1 ≤ b + n) → (mPal (fun b => mGrams τ (nI (sx b)) np) lm b = (pn, th)) → (τ 8 0 = nI np) → (∀ b, b < m1 → τ 28 b = nI (sx b)) → (mPalU σ np rho lm = τ) → (mPalR σ np nbx rho sx lm = (mPal (fun b => mGrams τ (nI (sx b)) np) lm m1).1) → va_P D gCl (wMd t a τ) H → va_D A (wMd t a τ) → va_S A s.heap H locs → lv_has ls 8 [(0, .ref (a 0)), (1, .int lm), (2, .int pn), (3, .int th), (4, .int (nI m1)), (5, .int (nI b))] → gGo l p e s m below meth c D t A 2 [.ref (a 0), .int lm] (wMd t a) (fun r u => r = mPalR σ np nbx rho sx lm ∧ u = mPalU σ np rho lm) H locs (F0 m 58 ls []) := by
    intro n
    induction n with
    | zero =>
      intro b m1 pn th τ H locs ls hb1 hm8 hf hs h8 hsx hu hmain hP hD hS hl
      exact absurd hf (by omega)
    | succ n ih =>
      intro b m1 pn th τ H locs ls hb1 hm8 hf hs h8 hsx hu hmain hP hD hS hl
      refine lv_iload hx hb d_Md_pallets_58 (lv_at hl 5 rfl) ?_
      refine lv_iload hx hb d_Md_pallets_60 (lv_at hl 4 rfl) ?_
      refine lv_icmp_ge (tgt := 131) hx hb d_Md_pallets_62 (by decide) (fun c_1 => ?_) (fun c_1 => ?_)
      · 
        have h_1 : m1 ≤ b := (nI_leI (a := m1) (b := b) (by omega) (by omega)).mp c_1
        refine lv_iload_n hx hb d_Md_pallets_131 rfl (lv_at hl 2 rfl) ?_
        exact W.iret (v := pn) hx hb hr (fun U hU hW => ⟨⟨pn, τ, rfl, by obtain rfl : b = m1 := (by omega); exact ⟨by rw [hmain, hs], hu.symm⟩, by rw [hU]; exact hP, hD⟩, hS.F hU⟩) hS.2.2 d_Md_pallets_132
      · 
        have h_1 : ¬ m1 ≤ b := fun q9 => c_1 ((nI_leI (a := m1) (b := b) (by omega) (by omega)).mpr q9)
        refine lv_aload_n hx hb d_Md_pallets_65 rfl (lv_at hl 0 rfl) ?_
        refine lv_aload_n hx hb d_Md_pallets_66 rfl (lv_at hl 0 rfl) ?_
        refine va_get (D := D) (ci := 7) (v := .ref (a 28)) (C := R_Md) (T := F_Md) (N := 34) hx hb hts (fun w h => List.mem_cons_of_mem _ (i_Md w h)) hown hK.1 hP 0 (wMd_0 t a τ) rfl 28 (by decide) (hts (.fieldLink R_Md 74 "FlatBoxesModel" "sets" "[I") (List.mem_cons_of_mem _ (gIn k_694 (by decide +kernel)))) (fun _ h9 => h9) rfl d_Md_pallets_67 ?_
        refine lv_iload hx hb d_Md_pallets_70 (lv_at hl 5 rfl) ?_
        refine g_iald hx hb hK.1 hP 22 0 (wMd_28 t a τ) rfl b (rfl) (by omega) (by decide) d_Md_pallets_72 ?_
        refine lv_topi (fun v_2 e_2 => ?_)
        obtain rfl : nI (sx b) = v_2 := (e_2.trans (hsx b (by omega))).symm
        refine g_vi (k := 1) (As := [.int (nI (sx b))]) (rest := []) (own := R_Md) (C := R_Md) (index := 161) ⟨hx, hb, hml, hown, hts⟩ (c_Md_gramsOf l D t a τ (nI (sx b)) np (h8) (hN8)) (gg_Md_161 _) (by decide +kernel) ⟨Nat.le_of_ble_eq_true rfl, Nat.le_of_ble_eq_true rfl⟩ rfl (va_recv hK.1 hP (ci := 7) (q0 := 0) rfl (wMd_0 t a τ)) hK hP hD hS hl.1 rfl (Nat.le_of_ble_eq_true rfl) ⟨Nat.zero_le _, Nat.zero_le _⟩ d_Md_pallets_73 (fun r_3 u_3 H locs q_3 hP hD hS => ?_)
        obtain ⟨rfl, hu_3⟩ := q_3
        rw [hu_3] at hP hD
        refine lv_istore (lv' := [(6, .int (mGrams τ (nI (sx b)) np)), (0, .ref (a 0)), (1, .int lm), (2, .int pn), (3, .int th), (4, .int (nI m1)), (5, .int (nI b))]) hx hb d_Md_pallets_76 hl (by decide) rfl (fun ls hl => ?_)
        refine lv_iload_n hx hb d_Md_pallets_78 rfl (lv_at hl 3 rfl) ?_
        refine lv_if_le (tgt := 94) hx hb d_Md_pallets_79 (by decide) (fun c_4 => ?_) (fun c_4 => ?_)
        · 
          refine lv_iconst (v := 0) hx hb d_Md_pallets_94 (by decide) ?_
          refine lv_istore (lv' := [(7, .int 0), (6, .int (mGrams τ (nI (sx b)) np)), (0, .ref (a 0)), (1, .int lm), (2, .int pn), (3, .int th), (4, .int (nI m1)), (5, .int (nI b))]) hx hb d_Md_pallets_95 hl (by decide) rfl (fun ls hl => ?_)
          refine lv_iload hx hb d_Md_pallets_97 (lv_at hl 0 rfl) ?_
          refine lv_if_eq (tgt := 109) hx hb d_Md_pallets_99 (by decide) (fun c_5 => ?_) (fun c_5 => ?_)
          · 
            refine lv_iload hx hb d_Md_pallets_109 (lv_at hl 1 rfl) ?_
            refine lv_istore_n (lv' := [(3, .int (mGrams τ (nI (sx b)) np)), (7, .int 0), (6, .int (mGrams τ (nI (sx b)) np)), (0, .ref (a 0)), (1, .int lm), (2, .int pn), (4, .int (nI m1)), (5, .int (nI b))]) hx hb d_Md_pallets_111 rfl hl (by decide) rfl (fun ls hl => ?_)
            refine lv_iload_n hx hb d_Md_pallets_112 rfl (lv_at hl 5 rfl) ?_
            refine lv_iload hx hb d_Md_pallets_113 (lv_at hl 1 rfl) ?_
            refine lv_if_eq (tgt := 122) hx hb d_Md_pallets_115 (by decide) (fun c_6 => ?_) (fun c_6 => ?_)
            · 
              refine lv_iconst (v := 1) hx hb d_Md_pallets_122 (by decide) ?_
              refine lv_iadd hx hb d_Md_pallets_123 ?_
              refine lv_istore_n (lv' := [(2, .int (pn + 1)), (3, .int (mGrams τ (nI (sx b)) np)), (7, .int 0), (6, .int (mGrams τ (nI (sx b)) np)), (0, .ref (a 0)), (1, .int lm), (4, .int (nI m1)), (5, .int (nI b))]) hx hb d_Md_pallets_124 rfl hl (by decide) rfl (fun ls hl => ?_)
              refine lv_iinc (v := nI (b + 1)) (lv' := [(5, .int (nI (b + 1))), (2, .int (pn + 1)), (3, .int (mGrams τ (nI (sx b)) np)), (7, .int 0), (6, .int (mGrams τ (nI (sx b)) np)), (0, .ref (a 0)), (1, .int lm), (4, .int (nI m1))]) hx hb d_Md_pallets_125 hl (k := 7) rfl (nI_1 b) (by decide) rfl (fun ls hl => ?_)
              refine lv_goto (tgt := 58) hx hb d_Md_pallets_128 (by decide) ?_
              exact ih (b + 1) m1 (pn + 1) (mGrams τ (nI (sx b)) np) τ _ _ _ (by omega) (by omega) (by omega) (by simp [mPal, hs, c_1, h_1, c_4, c_5, c_6]) (h8) (hsx) (hu) (hmain) hP hD hS (lv_sub hl [5, 6, 1, 2, 7, 0] rfl)
            · 
              exact absurd c_6 (by decide)
          · 
            exact absurd c_5 (by decide)
        · 
          refine lv_iload_n hx hb d_Md_pallets_82 rfl (lv_at hl 4 rfl) ?_
          refine lv_iload hx hb d_Md_pallets_83 (lv_at hl 0 rfl) ?_
          refine lv_iadd hx hb d_Md_pallets_85 ?_
          refine lv_iload_n hx hb d_Md_pallets_86 rfl (lv_at hl 2 rfl) ?_
          refine lv_icmp_gt (tgt := 94) hx hb d_Md_pallets_87 (by decide) (fun c_7 => ?_) (fun c_7 => ?_)
          · 
            refine lv_iconst (v := 0) hx hb d_Md_pallets_94 (by decide) ?_
            refine lv_istore (lv' := [(7, .int 0), (6, .int (mGrams τ (nI (sx b)) np)), (0, .ref (a 0)), (1, .int lm), (2, .int pn), (3, .int th), (4, .int (nI m1)), (5, .int (nI b))]) hx hb d_Md_pallets_95 hl (by decide) rfl (fun ls hl => ?_)
            refine lv_iload hx hb d_Md_pallets_97 (lv_at hl 0 rfl) ?_
            refine lv_if_eq (tgt := 109) hx hb d_Md_pallets_99 (by decide) (fun c_8 => ?_) (fun c_8 => ?_)
            · 
              refine lv_iload hx hb d_Md_pallets_109 (lv_at hl 1 rfl) ?_
              refine lv_istore_n (lv' := [(3, .int (mGrams τ (nI (sx b)) np)), (7, .int 0), (6, .int (mGrams τ (nI (sx b)) np)), (0, .ref (a 0)), (1, .int lm), (2, .int pn), (4, .int (nI m1)), (5, .int (nI b))]) hx hb d_Md_pallets_111 rfl hl (by decide) rfl (fun ls hl => ?_)
              refine lv_iload_n hx hb d_Md_pallets_112 rfl (lv_at hl 5 rfl) ?_
              refine lv_iload hx hb d_Md_pallets_113 (lv_at hl 1 rfl) ?_
              refine lv_if_eq (tgt := 122) hx hb d_Md_pallets_115 (by decide) (fun c_9 => ?_) (fun c_9 => ?_)
              · 
                refine lv_iconst (v := 1) hx hb d_Md_pallets_122 (by decide) ?_
                refine lv_iadd hx hb d_Md_pallets_123 ?_
                refine lv_istore_n (lv' := [(2, .int (pn + 1)), (3, .int (mGrams τ (nI (sx b)) np)), (7, .int 0), (6, .int (mGrams τ (nI (sx b)) np)), (0, .ref (a 0)), (1, .int lm), (4, .int (nI m1)), (5, .int (nI b))]) hx hb d_Md_pallets_124 rfl hl (by decide) rfl (fun ls hl => ?_)
                refine lv_iinc (v := nI (b + 1)) (lv' := [(5, .int (nI (b + 1))), (2, .int (pn + 1)), (3, .int (mGrams τ (nI (sx b)) np)), (7, .int 0), (6, .int (mGrams τ (nI (sx b)) np)), (0, .ref (a 0)), (1, .int lm), (4, .int (nI m1))]) hx hb d_Md_pallets_125 hl (k := 7) rfl (nI_1 b) (by decide) rfl (fun ls hl => ?_)
                refine lv_goto (tgt := 58) hx hb d_Md_pallets_128 (by decide) ?_
                exact ih (b + 1) m1 (pn + 1) (mGrams τ (nI (sx b)) np) τ _ _ _ (by omega) (by omega) (by omega) (by simp [mPal, hs, c_1, h_1, c_4, c_7, c_8, c_9]) (h8) (hsx) (hu) (hmain) hP hD hS (lv_sub hl [5, 6, 1, 2, 7, 0] rfl)
              · 
                exact absurd c_9 (by decide)
            · 
              exact absurd c_8 (by decide)
          · 
            refine lv_iconst (v := 1) hx hb d_Md_pallets_90 (by decide) ?_
            refine lv_goto (tgt := 95) hx hb d_Md_pallets_91 (by decide) ?_
            refine lv_istore (lv' := [(7, .int 1), (6, .int (mGrams τ (nI (sx b)) np)), (0, .ref (a 0)), (1, .int lm), (2, .int pn), (3, .int th), (4, .int (nI m1)), (5, .int (nI b))]) hx hb d_Md_pallets_95 hl (by decide) rfl (fun ls hl => ?_)
            refine lv_iload hx hb d_Md_pallets_97 (lv_at hl 0 rfl) ?_
            refine lv_if_eq (tgt := 109) hx hb d_Md_pallets_99 (by decide) (fun c_10 => ?_) (fun c_10 => ?_)
            · 
              exact absurd c_10 (by decide)
            · 
              refine lv_iload_n hx hb d_Md_pallets_102 rfl (lv_at hl 5 rfl) ?_
              refine lv_iload hx hb d_Md_pallets_103 (lv_at hl 1 rfl) ?_
              refine lv_iadd hx hb d_Md_pallets_105 ?_
              refine lv_goto (tgt := 111) hx hb d_Md_pallets_106 (by decide) ?_
              refine lv_istore_n (lv' := [(3, .int (th + (mGrams τ (nI (sx b)) np))), (7, .int 1), (6, .int (mGrams τ (nI (sx b)) np)), (0, .ref (a 0)), (1, .int lm), (2, .int pn), (4, .int (nI m1)), (5, .int (nI b))]) hx hb d_Md_pallets_111 rfl hl (by decide) rfl (fun ls hl => ?_)
              refine lv_iload_n hx hb d_Md_pallets_112 rfl (lv_at hl 5 rfl) ?_
              refine lv_iload hx hb d_Md_pallets_113 (lv_at hl 1 rfl) ?_
              refine lv_if_eq (tgt := 122) hx hb d_Md_pallets_115 (by decide) (fun c_11 => ?_) (fun c_11 => ?_)
              · 
                exact absurd c_11 (by decide)
              · 
                refine lv_iconst (v := 0) hx hb d_Md_pallets_118 (by decide) ?_
                refine lv_goto (tgt := 123) hx hb d_Md_pallets_119 (by decide) ?_
                refine lv_iadd hx hb d_Md_pallets_123 ?_
                refine lv_istore_n (lv' := [(2, .int (pn + 0)), (3, .int (th + (mGrams τ (nI (sx b)) np))), (7, .int 1), (6, .int (mGrams τ (nI (sx b)) np)), (0, .ref (a 0)), (1, .int lm), (4, .int (nI m1)), (5, .int (nI b))]) hx hb d_Md_pallets_124 rfl hl (by decide) rfl (fun ls hl => ?_)
                refine lv_iinc (v := nI (b + 1)) (lv' := [(5, .int (nI (b + 1))), (2, .int (pn + 0)), (3, .int (th + (mGrams τ (nI (sx b)) np))), (7, .int 1), (6, .int (mGrams τ (nI (sx b)) np)), (0, .ref (a 0)), (1, .int lm), (4, .int (nI m1))]) hx hb d_Md_pallets_125 hl (k := 7) rfl (nI_1 b) (by decide) rfl (fun ls hl => ?_)
                refine lv_goto (tgt := 58) hx hb d_Md_pallets_128 (by decide) ?_
                exact ih (b + 1) m1 (pn + 0) (th + (mGrams τ (nI (sx b)) np)) τ _ _ _ (by omega) (by omega) (by omega) (by simp [mPal, hs, c_1, h_1, c_4, c_7, c_10, c_11]) (h8) (hsx) (hu) (hmain) hP hD hS (lv_sub hl [5, 6, 1, 2, 7, 0] rfl)
  refine lv_aload_n hx hb d_Md_pallets_0 rfl (lv_at hl 0 rfl) ?_
  refine lv_aload_n hx hb d_Md_pallets_1 rfl (lv_at hl 0 rfl) ?_
  refine va_get (D := D) (ci := 7) (v := .int (σ 24 0)) (C := R_Md) (T := F_Md) (N := 34) hx hb hts (fun w h => List.mem_cons_of_mem _ (i_Md w h)) hown hK.1 hP 0 (wMd_0 t a σ) rfl 24 (by decide) (hts (.fieldLink R_Md 108 "FlatBoxesModel" "hasShares" "Z") (List.mem_cons_of_mem _ (gIn k_690 (by decide +kernel)))) (fun _ h9 => h9) rfl d_Md_pallets_2 ?_
  refine lv_if_ne (tgt := 12) hx hb d_Md_pallets_5 (by decide) (fun c_12 => ?_) (fun c_12 => ?_)
  · 
    refine lv_iload_n hx hb d_Md_pallets_12 rfl (lv_at hl 1 rfl) ?_
    refine lv_iconst (v := 1) hx hb d_Md_pallets_13 (by decide) ?_
    refine lv_ldc hx hb hown (hts (.constant R_Md 170 1000000) (List.mem_cons_of_mem _ (gIn k_888 (by decide +kernel)))) d_Md_pallets_14 ?_
    refine g_si (k := 3) (As := [.int lm, .int 1, .int 1000000]) (rest := [.ref (a 0)]) (own := R_Md) (index := 96) ⟨hx, hb, hml, hown, hts⟩ (c_Md_in l D t a σ lm 1 1000000) (gg_Md_96 _) (by decide +kernel) ⟨Nat.le_of_ble_eq_true rfl, Nat.le_of_ble_eq_true rfl⟩ rfl hK hP hD hS hl.1 rfl (Nat.le_of_ble_eq_true rfl) ⟨Nat.zero_le _, Nat.zero_le _⟩ d_Md_pallets_16 (fun r_13 u_13 H locs q_13 hP hD hS => ?_)
    obtain ⟨rfl, hu_13⟩ := q_13
    rw [hu_13] at hP hD
    refine lv_if_ne (tgt := 26) hx hb d_Md_pallets_19 (by decide) (fun c_14 => ?_) (fun c_14 => ?_)
    · 
      refine lv_iconst (v := 0) hx hb d_Md_pallets_26 (by decide) ?_
      refine va_put (D := D) (ci := 7) (v := .int 0) (ty := .int) (C := R_Md) (T := F_Md) (N := 34) hx hb hts (fun w h => List.mem_cons_of_mem _ (i_Md w h)) t_Md t_Md_ok n_Md hown hK.1 hP hD hS 0 (wMd_0 t a σ) rfl 0 (by decide) (hts (.fieldLink R_Md 93 "FlatBoxesModel" "code" "I") (List.mem_cons_of_mem _ (gIn k_666 (by decide +kernel)))) (fun _ h9 => h9) rfl (by decide +kernel) rfl rfl (Nat.le_of_ble_eq_true rfl) d_Md_pallets_27 (fun H locs hP hD hS => ?_)
      have hP : va_P D gCl (wMd t a (gSt σ 0 0 0)) H := hP
      have hD : va_D A (wMd t a (gSt σ 0 0 0)) := hD
      refine lv_iconst (v := 0) hx hb d_Md_pallets_30 (by decide) ?_
      refine lv_istore_n (lv' := [(2, .int 0), (0, .ref (a 0)), (1, .int lm)]) hx hb d_Md_pallets_31 rfl hl (by decide) rfl (fun ls hl => ?_)
      refine lv_iconst (v := 0) hx hb d_Md_pallets_32 (by decide) ?_
      refine lv_istore_n (lv' := [(3, .int 0), (2, .int 0), (0, .ref (a 0)), (1, .int lm)]) hx hb d_Md_pallets_33 rfl hl (by decide) rfl (fun ls hl => ?_)
      refine lv_aload_n hx hb d_Md_pallets_34 rfl (lv_at hl 2 rfl) ?_
      refine va_get (D := D) (ci := 7) (v := .int ((gSt σ 0 0 0) 0 0)) (C := R_Md) (T := F_Md) (N := 34) hx hb hts (fun w h => List.mem_cons_of_mem _ (i_Md w h)) hown hK.1 hP 0 (wMd_0 t a (gSt σ 0 0 0)) rfl 0 (by decide) (hts (.fieldLink R_Md 93 "FlatBoxesModel" "code" "I") (List.mem_cons_of_mem _ (gIn k_666 (by decide +kernel)))) (fun _ h9 => h9) rfl d_Md_pallets_35 ?_
      refine lv_topi (fun v_15 e_15 => ?_)
      obtain rfl : 0 = v_15 := (e_15.trans (rfl)).symm
      refine lv_if_le (tgt := 45) hx hb d_Md_pallets_38 (by decide) (fun c_16 => ?_) (fun c_16 => ?_)
      · 
        have hS1 := hsh c_12
        have hn8 := hS1.2.1
        refine lv_aload_n hx hb d_Md_pallets_45 rfl (lv_at hl 2 rfl) ?_
        refine lv_aload_n hx hb d_Md_pallets_46 rfl (lv_at hl 2 rfl) ?_
        refine va_get (D := D) (ci := 7) (v := .ref (a 26)) (C := R_Md) (T := F_Md) (N := 34) hx hb hts (fun w h => List.mem_cons_of_mem _ (i_Md w h)) hown hK.1 hP 0 (wMd_0 t a (gSt σ 0 0 0)) rfl 26 (by decide) (hts (.fieldLink R_Md 68 "FlatBoxesModel" "shares" "[I") (List.mem_cons_of_mem _ (gIn k_692 (by decide +kernel)))) (fun _ h9 => h9) rfl d_Md_pallets_47 ?_
        refine g_vi (k := 1) (As := [.ref (a 26)]) (rest := []) (own := R_Md) (C := R_Md) (index := 144) ⟨hx, hb, hml, hown, hts⟩ (c_Md_setsOf_s l D t a (gSt σ 0 0 0) np rho hN hN8 (fun q hq => ⟨(hS1.1 q hq).1, by have := (hS1.1 q hq).2; have := hS1.2.1; omega⟩)) (gg_Md_144 _) (by decide +kernel) ⟨Nat.le_of_ble_eq_true rfl, Nat.le_of_ble_eq_true rfl⟩ rfl (va_recv hK.1 hP (ci := 7) (q0 := 0) rfl (wMd_0 t a (gSt σ 0 0 0))) hK hP hD hS hl.1 rfl (Nat.le_of_ble_eq_true rfl) ⟨Nat.zero_le _, Nat.zero_le _⟩ d_Md_pallets_50 (fun r_17 u_17 H locs q_17 hP hD hS => ?_)
        obtain ⟨rfl, hu_17⟩ := q_17
        rw [hu_17] at hP hD
        refine lv_topi (fun v_18 e_18 => ?_)
        obtain rfl : nI nbx = v_18 := (e_18.trans (by rw [hS1.2.2.2.2])).symm
        refine lv_istore (lv' := [(4, .int (nI nbx)), (3, .int 0), (2, .int 0), (0, .ref (a 0)), (1, .int lm)]) hx hb d_Md_pallets_53 hl (by decide) rfl (fun ls hl => ?_)
        refine lv_iconst (v := 0) hx hb d_Md_pallets_55 (by decide) ?_
        refine lv_istore (lv' := [(5, .int 0), (4, .int (nI nbx)), (3, .int 0), (2, .int 0), (0, .ref (a 0)), (1, .int lm)]) hx hb d_Md_pallets_56 hl (by decide) rfl (fun ls hl => ?_)
        exact cut_58 (nbx + 1) 0 nbx 0 0 ((mSets (gSt σ 0 0 0) rho np).1) _ _ _ (by omega) (by omega) (by omega) (rfl) (by first | exact hN | exact (congrFun (mSets_fix (gSt σ 0 0 0) rho (by decide) np) 0).trans hN) (by first | exact fun b hb => absurd hb (Nat.not_lt_zero b) | exact fun b hb => (hS1.2.2.2.1 b hb).1) (by simp [mPalU, mPalC, c_12, c_14, c_16]) (by simp [mPalR, mPalC, mPal, c_12, c_14, c_16]) hP hD hS (lv_sub hl [4, 5, 3, 2, 1, 0] rfl)
      · 
        exact absurd c_16 (by decide)
    · 
      refine lv_iconst (v := 2) hx hb d_Md_pallets_22 (by decide) ?_
      refine lv_goto (tgt := 27) hx hb d_Md_pallets_23 (by decide) ?_
      refine va_put (D := D) (ci := 7) (v := .int 2) (ty := .int) (C := R_Md) (T := F_Md) (N := 34) hx hb hts (fun w h => List.mem_cons_of_mem _ (i_Md w h)) t_Md t_Md_ok n_Md hown hK.1 hP hD hS 0 (wMd_0 t a σ) rfl 0 (by decide) (hts (.fieldLink R_Md 93 "FlatBoxesModel" "code" "I") (List.mem_cons_of_mem _ (gIn k_666 (by decide +kernel)))) (fun _ h9 => h9) rfl (by decide +kernel) rfl rfl (Nat.le_of_ble_eq_true rfl) d_Md_pallets_27 (fun H locs hP hD hS => ?_)
      have hP : va_P D gCl (wMd t a (gSt σ 0 0 2)) H := hP
      have hD : va_D A (wMd t a (gSt σ 0 0 2)) := hD
      refine lv_iconst (v := 0) hx hb d_Md_pallets_30 (by decide) ?_
      refine lv_istore_n (lv' := [(2, .int 0), (0, .ref (a 0)), (1, .int lm)]) hx hb d_Md_pallets_31 rfl hl (by decide) rfl (fun ls hl => ?_)
      refine lv_iconst (v := 0) hx hb d_Md_pallets_32 (by decide) ?_
      refine lv_istore_n (lv' := [(3, .int 0), (2, .int 0), (0, .ref (a 0)), (1, .int lm)]) hx hb d_Md_pallets_33 rfl hl (by decide) rfl (fun ls hl => ?_)
      refine lv_aload_n hx hb d_Md_pallets_34 rfl (lv_at hl 2 rfl) ?_
      refine va_get (D := D) (ci := 7) (v := .int ((gSt σ 0 0 2) 0 0)) (C := R_Md) (T := F_Md) (N := 34) hx hb hts (fun w h => List.mem_cons_of_mem _ (i_Md w h)) hown hK.1 hP 0 (wMd_0 t a (gSt σ 0 0 2)) rfl 0 (by decide) (hts (.fieldLink R_Md 93 "FlatBoxesModel" "code" "I") (List.mem_cons_of_mem _ (gIn k_666 (by decide +kernel)))) (fun _ h9 => h9) rfl d_Md_pallets_35 ?_
      refine lv_topi (fun v_19 e_19 => ?_)
      obtain rfl : 2 = v_19 := (e_19.trans (rfl)).symm
      refine lv_if_le (tgt := 45) hx hb d_Md_pallets_38 (by decide) (fun c_20 => ?_) (fun c_20 => ?_)
      · 
        exact absurd c_20 (by decide)
      · 
        refine lv_iconst (v := 0) hx hb d_Md_pallets_41 (by decide) ?_
        refine lv_goto (tgt := 53) hx hb d_Md_pallets_42 (by decide) ?_
        refine lv_istore (lv' := [(4, .int 0), (3, .int 0), (2, .int 0), (0, .ref (a 0)), (1, .int lm)]) hx hb d_Md_pallets_53 hl (by decide) rfl (fun ls hl => ?_)
        refine lv_iconst (v := 0) hx hb d_Md_pallets_55 (by decide) ?_
        refine lv_istore (lv' := [(5, .int 0), (4, .int 0), (3, .int 0), (2, .int 0), (0, .ref (a 0)), (1, .int lm)]) hx hb d_Md_pallets_56 hl (by decide) rfl (fun ls hl => ?_)
        exact cut_58 (0 + 1) 0 0 0 0 (gSt σ 0 0 2) _ _ _ (by omega) (by omega) (by omega) (rfl) (by first | exact hN | exact (congrFun (mSets_fix (gSt σ 0 0 0) rho (by decide) np) 0).trans hN) (by first | exact fun b hb => absurd hb (Nat.not_lt_zero b) | exact fun b hb => (hS1.2.2.2.1 b hb).1) (by simp [mPalU, mPalC, c_12, c_14, c_20]) (by simp [mPalR, mPalC, mPal, c_12, c_14, c_20]) hP hD hS (lv_sub hl [4, 5, 3, 2, 1, 0] rfl)
  · 
    refine lv_iconst (v := 1) hx hb d_Md_pallets_8 (by decide) ?_
    refine lv_goto (tgt := 27) hx hb d_Md_pallets_9 (by decide) ?_
    refine va_put (D := D) (ci := 7) (v := .int 1) (ty := .int) (C := R_Md) (T := F_Md) (N := 34) hx hb hts (fun w h => List.mem_cons_of_mem _ (i_Md w h)) t_Md t_Md_ok n_Md hown hK.1 hP hD hS 0 (wMd_0 t a σ) rfl 0 (by decide) (hts (.fieldLink R_Md 93 "FlatBoxesModel" "code" "I") (List.mem_cons_of_mem _ (gIn k_666 (by decide +kernel)))) (fun _ h9 => h9) rfl (by decide +kernel) rfl rfl (Nat.le_of_ble_eq_true rfl) d_Md_pallets_27 (fun H locs hP hD hS => ?_)
    have hP : va_P D gCl (wMd t a (gSt σ 0 0 1)) H := hP
    have hD : va_D A (wMd t a (gSt σ 0 0 1)) := hD
    refine lv_iconst (v := 0) hx hb d_Md_pallets_30 (by decide) ?_
    refine lv_istore_n (lv' := [(2, .int 0), (0, .ref (a 0)), (1, .int lm)]) hx hb d_Md_pallets_31 rfl hl (by decide) rfl (fun ls hl => ?_)
    refine lv_iconst (v := 0) hx hb d_Md_pallets_32 (by decide) ?_
    refine lv_istore_n (lv' := [(3, .int 0), (2, .int 0), (0, .ref (a 0)), (1, .int lm)]) hx hb d_Md_pallets_33 rfl hl (by decide) rfl (fun ls hl => ?_)
    refine lv_aload_n hx hb d_Md_pallets_34 rfl (lv_at hl 2 rfl) ?_
    refine va_get (D := D) (ci := 7) (v := .int ((gSt σ 0 0 1) 0 0)) (C := R_Md) (T := F_Md) (N := 34) hx hb hts (fun w h => List.mem_cons_of_mem _ (i_Md w h)) hown hK.1 hP 0 (wMd_0 t a (gSt σ 0 0 1)) rfl 0 (by decide) (hts (.fieldLink R_Md 93 "FlatBoxesModel" "code" "I") (List.mem_cons_of_mem _ (gIn k_666 (by decide +kernel)))) (fun _ h9 => h9) rfl d_Md_pallets_35 ?_
    refine lv_topi (fun v_21 e_21 => ?_)
    obtain rfl : 1 = v_21 := (e_21.trans (rfl)).symm
    refine lv_if_le (tgt := 45) hx hb d_Md_pallets_38 (by decide) (fun c_22 => ?_) (fun c_22 => ?_)
    · 
      exact absurd c_22 (by decide)
    · 
      refine lv_iconst (v := 0) hx hb d_Md_pallets_41 (by decide) ?_
      refine lv_goto (tgt := 53) hx hb d_Md_pallets_42 (by decide) ?_
      refine lv_istore (lv' := [(4, .int 0), (3, .int 0), (2, .int 0), (0, .ref (a 0)), (1, .int lm)]) hx hb d_Md_pallets_53 hl (by decide) rfl (fun ls hl => ?_)
      refine lv_iconst (v := 0) hx hb d_Md_pallets_55 (by decide) ?_
      refine lv_istore (lv' := [(5, .int 0), (4, .int 0), (3, .int 0), (2, .int 0), (0, .ref (a 0)), (1, .int lm)]) hx hb d_Md_pallets_56 hl (by decide) rfl (fun ls hl => ?_)
      exact cut_58 (0 + 1) 0 0 0 0 (gSt σ 0 0 1) _ _ _ (by omega) (by omega) (by omega) (rfl) (by first | exact hN | exact (congrFun (mSets_fix (gSt σ 0 0 0) rho (by decide) np) 0).trans hN) (by first | exact fun b hb => absurd hb (Nat.not_lt_zero b) | exact fun b hb => (hS1.2.2.2.1 b hb).1) (by simp [mPalU, mPalC, c_12, c_22]) (by simp [mPalR, mPalC, mPal, c_12, c_22]) hP hD hS (lv_sub hl [4, 5, 3, 2, 1, 0] rfl)
end
section
def mBoxN (τ : Nat → Nat → Int32) (bv : Int32) : Nat → Int32
  | 0 => 0
  | k + 1 => mBoxN τ bv k + (if τ 26 k = bv then 1 else 0)
def mBxC (σ : Nat → Nat → Int32) (nbx : Nat) (bv wh : Int32) : Int32 := if σ 24 0 = 0 then 1 else if mIn bv 0 (nI nbx - 1) = 0 then 2 else if mIn wh 0 4 = 0 then 2 else 0
def mBxV (τ : Nat → Nat → Int32) (np b c1 s1 L : Nat) (wh : Int32) : Int32 := if ¬ wh = 0 then (if ¬ wh = 1 then (if ¬ wh = 2 then (if ¬ wh = 3 then mSum (τ 19) L else nI L) else mGrams τ (nI s1) np) else mBoxN τ (nI b) np) else nI c1
def mBxR (σ : Nat → Nat → Int32) (np nbx : Nat) (rho ord sx cx Lb : Nat → Nat) (bv wh : Int32) : Int32 := if mBxC σ nbx bv wh = 0 then mBxV (mBoxU (gSt σ 0 0 0) rho ord sx cx np bv.toNatClampNeg) np bv.toNatClampNeg (cx bv.toNatClampNeg) (sx bv.toNatClampNeg) (Lb bv.toNatClampNeg) wh else 0
def mBxU (σ : Nat → Nat → Int32) (np nbx : Nat) (rho ord sx cx : Nat → Nat) (bv wh : Int32) : Nat → Nat → Int32 := if mBxC σ nbx bv wh = 0 then mBoxU (gSt σ 0 0 0) rho ord sx cx np bv.toNatClampNeg else gSt σ 0 0 (mBxC σ nbx bv wh)

theorem gg_Md_158 (w0 : Cond) : GoodIn (w0 :: gBig) (wsV R_Md 158 R_Md y_Md_isBelow (.code y_Md_isBelow b_Md_isBelow 3 (some .boolean) :: gBig)) := gGoodV (gIn k_845 (by decide +kernel)) (gIn k_847 (by decide +kernel)) (gInP (List.mem_of_getElem? (i := 26) (by decide +kernel)) (by decide +kernel)) (gIn k_9 (by decide +kernel)) (gIn k_848 (by decide +kernel))
set_option maxHeartbeats 4000000 in
set_option maxRecDepth 100000 in
theorem c_Md_at (l : Launch) (D : va_G) (t : Nat → ClassId) (a : Nat → Nat) (σ : Nat → Nat → Int32) (pt wh : Int32) (ord Lf lpf : Nat → Nat) (np nbx : Nat) (rho sx cx : Nat → Nat) (hN : σ 8 0 = nI np) (hN8 : np ≤ 8) (hsh : ¬ σ 24 0 = 0 → mShOK (gSt σ 0 0 0) np nbx rho sx cx) (hord : ∀ k, k < np → ord k < np ∧ mBT (σ 11) np (nI k) np 0 = nI (ord k)) (hat : ¬ σ 24 0 = 0 → ∀ q, q < np → mAtOK (mBoxU (gSt σ 0 0 0) rho ord sx cx np (rho q)) q (Lf q) (lpf q)) : gMi l D t y_Md_at b_Md_at 6 (some .int) 3 [.ref (a 0), .int pt, .int wh] (wMd t a σ) (wMd t a) (fun r u => r = mAtR σ np rho ord sx cx Lf lpf pt wh ∧ u = mAtU σ np rho ord sx cx pt wh) := by
  intro A
  refine Met.ofW (cc := b_Md_at) (maxL := 6) (ret := (some .int)) (by decide) rfl ?_
  intro p e s m args below meth c s₁ B hml hv
  obtain ⟨rfl, hK, hP, hD⟩ := hv
  have hx := B.exec
  have hb := B.bytes
  have hr := B.returns
  have hts := atoms_spec (ws := .code y_Md_at b_Md_at 6 (some .int) :: gBig) B.pre
  have hown : s.vm.findClass R_Md = some m.cls := findClass_of_methodNamed B.named
  have hlocks := B.notSynchronized
  have hS : va_S A s.heap s.heap [] := va_S.rf
  have hl := lv_entry ([.ref (a 0), .int pt, .int wh]) (n := 6) (Nat.le_of_ble_eq_true rfl)
  rw [lg_entry_eq]
  generalize (lg_sl ([.ref (a 0), .int pt, .int wh]) ++ List.replicate (6 - (lg_sl ([.ref (a 0), .int pt, .int wh])).length) Slot.unset).toArray = ls at hl ⊢
  have hl : lv_has ls 6 [(0, .ref (a 0)), (1, .int pt), (2, .int wh)] := hl
  show gGo l p e s m below meth c D t A 3 [.ref (a 0), .int pt, .int wh] (wMd t a) (fun r u => r = mAtR σ np rho ord sx cx Lf lpf pt wh ∧ u = mAtU σ np rho ord sx cx pt wh) s.heap [] (F0 m 0 ls [])
  have cut_71 : ∀ (n : Nat) (q : Nat) (k : Nat) (ly : Int32) (z : Int32) (H : Heap) (locs : List Loc) (ls : Array Slot), (q < np) → (k ≤ Lf q) → (Lf q + 1 ≤ k + n) → (ly = mLy (mBoxU (gSt σ 0 0 0) rho ord sx cx np (rho q)) (lpf q) k) → (z = mLz (mBoxU (gSt σ 0 0 0) rho ord sx cx np (rho q)) (lpf q) k) → (pt = nI q) → (mAtC σ np pt wh = 0) → ((mBoxU (gSt σ 0 0 0) rho ord sx cx np (rho q)) 17 0 = nI (Lf q)) → (Lf q ≤ 8) → ((mBoxU (gSt σ 0 0 0) rho ord sx cx np (rho q)) 15 q = nI (lpf q)) → (lpf q < 8) → (∀ i, (mBoxU (gSt σ 0 0 0) rho ord sx cx np (rho q)) 22 i = 0 ∨ (mBoxU (gSt σ 0 0 0) rho ord sx cx np (rho q)) 22 i = 1) → ((mBoxU (gSt σ 0 0 0) rho ord sx cx np (rho q)) 26 q = nI (rho q)) → va_P D gCl (wMd t a (mBoxU (gSt σ 0 0 0) rho ord sx cx np (rho q))) H → va_D A (wMd t a (mBoxU (gSt σ 0 0 0) rho ord sx cx np (rho q))) → va_S A s.heap H locs → lv_has ls 6 [(0, .ref (a 0)), (1, .int (nI q)), (2, .int wh), (3, .int ly), (4, .int z), (5, .int (nI k))] → gGo l p e s m below meth c D t A 3 [.ref (a 0), .int pt, .int wh] (wMd t a) (fun r u => r = mAtR σ np rho ord sx cx Lf lpf pt wh ∧ u = mAtU σ np rho ord sx cx pt wh) H locs (F0 m 71 ls []) := by
    intro n
    induction n with
    | zero =>
      intro q k ly z H locs ls hq hk hf hly hz hpt hcd hL1 hL8 hlp hlp8 h22 hrq hP hD hS hl
      exact absurd hf (by omega)
    | succ n ih =>
      intro q k ly z H locs ls hq hk hf hly hz hpt hcd hL1 hL8 hlp hlp8 h22 hrq hP hD hS hl
      refine lv_iload hx hb d_Md_at_71 (lv_at hl 5 rfl) ?_
      refine lv_aload_n hx hb d_Md_at_73 rfl (lv_at hl 0 rfl) ?_
      refine va_get (D := D) (ci := 7) (v := .int ((mBoxU (gSt σ 0 0 0) rho ord sx cx np (rho q)) 17 0)) (C := R_Md) (T := F_Md) (N := 34) hx hb hts (fun w h => List.mem_cons_of_mem _ (i_Md w h)) hown hK.1 hP 0 (wMd_0 t a (mBoxU (gSt σ 0 0 0) rho ord sx cx np (rho q))) rfl 17 (by decide) (hts (.fieldLink R_Md 116 "FlatBoxesModel" "layers" "I") (List.mem_cons_of_mem _ (gIn k_683 (by decide +kernel)))) (fun _ h9 => h9) rfl d_Md_at_74 ?_
      refine lv_topi (fun v_1 e_1 => ?_)
      obtain rfl : nI (Lf q) = v_1 := (e_1.trans (hL1)).symm
      refine lv_icmp_ge (tgt := 116) hx hb d_Md_at_77 (by decide) (fun c_2 => ?_) (fun c_2 => ?_)
      · 
        have h_2 : Lf q ≤ k := (nI_leI (a := Lf q) (b := k) (by omega) (by omega)).mp c_2
        refine lv_iload_n hx hb d_Md_at_116 rfl (lv_at hl 2 rfl) ?_
        refine lv_if_ne (tgt := 129) hx hb d_Md_at_117 (by decide) (fun c_3 => ?_) (fun c_3 => ?_)
        · 
          refine lv_iload_n hx hb d_Md_at_129 rfl (lv_at hl 2 rfl) ?_
          refine lv_iconst (v := 1) hx hb d_Md_at_130 (by decide) ?_
          refine lv_icmp_ne (tgt := 138) hx hb d_Md_at_131 (by decide) (fun c_4 => ?_) (fun c_4 => ?_)
          · 
            refine lv_iload_n hx hb d_Md_at_138 rfl (lv_at hl 2 rfl) ?_
            refine lv_iconst (v := 2) hx hb d_Md_at_139 (by decide) ?_
            refine lv_icmp_ne (tgt := 152) hx hb d_Md_at_140 (by decide) (fun c_5 => ?_) (fun c_5 => ?_)
            · 
              refine lv_iload hx hb d_Md_at_152 (lv_at hl 4 rfl) ?_
              exact W.iret (v := z) hx hb hr (fun U hU hW => ⟨⟨z, mBoxU (gSt σ 0 0 0) rho ord sx cx np (rho q), rfl, by obtain rfl : k = Lf q := (by omega); subst hly hz; exact ⟨by rw [mAtR, if_pos hcd, hpt, nI_clamp (by omega)]; simp [mAtV, c_2, h_2, c_3, c_4, c_5], by rw [mAtU, if_pos hcd, hpt, nI_clamp (by omega)]⟩, by rw [hU]; exact hP, hD⟩, hS.F hU⟩) hS.2.2 d_Md_at_154
            · 
              refine lv_aload_n hx hb d_Md_at_143 rfl (lv_at hl 0 rfl) ?_
              refine va_get (D := D) (ci := 7) (v := .ref (a 16)) (C := R_Md) (T := F_Md) (N := 34) hx hb hts (fun w h => List.mem_cons_of_mem _ (i_Md w h)) hown hK.1 hP 0 (wMd_0 t a (mBoxU (gSt σ 0 0 0) rho ord sx cx np (rho q))) rfl 16 (by decide) (hts (.fieldLink R_Md 47 "FlatBoxesModel" "begins" "[I") (List.mem_cons_of_mem _ (gIn k_682 (by decide +kernel)))) (fun _ h9 => h9) rfl d_Md_at_144 ?_
              refine lv_iload_n hx hb d_Md_at_147 rfl (lv_at hl 1 rfl) ?_
              refine g_iald hx hb hK.1 hP 13 0 (wMd_16 t a (mBoxU (gSt σ 0 0 0) rho ord sx cx np (rho q))) rfl q (rfl) (by omega) (by decide) d_Md_at_148 ?_
              refine lv_goto (tgt := 154) hx hb d_Md_at_149 (by decide) ?_
              exact W.iret (v := (mBoxU (gSt σ 0 0 0) rho ord sx cx np (rho q)) 16 q) hx hb hr (fun U hU hW => ⟨⟨(mBoxU (gSt σ 0 0 0) rho ord sx cx np (rho q)) 16 q, mBoxU (gSt σ 0 0 0) rho ord sx cx np (rho q), rfl, by obtain rfl : k = Lf q := (by omega); subst hly hz; exact ⟨by rw [mAtR, if_pos hcd, hpt, nI_clamp (by omega)]; simp [mAtV, c_2, h_2, c_3, c_4, c_5], by rw [mAtU, if_pos hcd, hpt, nI_clamp (by omega)]⟩, by rw [hU]; exact hP, hD⟩, hS.F hU⟩) hS.2.2 d_Md_at_154
          · 
            refine lv_iload_n hx hb d_Md_at_134 rfl (lv_at hl 3 rfl) ?_
            refine lv_goto (tgt := 154) hx hb d_Md_at_135 (by decide) ?_
            exact W.iret (v := ly) hx hb hr (fun U hU hW => ⟨⟨ly, mBoxU (gSt σ 0 0 0) rho ord sx cx np (rho q), rfl, by obtain rfl : k = Lf q := (by omega); subst hly hz; exact ⟨by rw [mAtR, if_pos hcd, hpt, nI_clamp (by omega)]; simp [mAtV, c_2, h_2, c_3, c_4], by rw [mAtU, if_pos hcd, hpt, nI_clamp (by omega)]⟩, by rw [hU]; exact hP, hD⟩, hS.F hU⟩) hS.2.2 d_Md_at_154
        · 
          refine lv_aload_n hx hb d_Md_at_120 rfl (lv_at hl 0 rfl) ?_
          refine va_get (D := D) (ci := 7) (v := .ref (a 26)) (C := R_Md) (T := F_Md) (N := 34) hx hb hts (fun w h => List.mem_cons_of_mem _ (i_Md w h)) hown hK.1 hP 0 (wMd_0 t a (mBoxU (gSt σ 0 0 0) rho ord sx cx np (rho q))) rfl 26 (by decide) (hts (.fieldLink R_Md 68 "FlatBoxesModel" "shares" "[I") (List.mem_cons_of_mem _ (gIn k_692 (by decide +kernel)))) (fun _ h9 => h9) rfl d_Md_at_121 ?_
          refine lv_iload_n hx hb d_Md_at_124 rfl (lv_at hl 1 rfl) ?_
          refine g_iald hx hb hK.1 hP 20 0 (wMd_26 t a (mBoxU (gSt σ 0 0 0) rho ord sx cx np (rho q))) rfl q (rfl) (by omega) (by decide) d_Md_at_125 ?_
          refine lv_topi (fun v_6 e_6 => ?_)
          obtain rfl : nI (rho q) = v_6 := (e_6.trans (hrq)).symm
          refine lv_goto (tgt := 154) hx hb d_Md_at_126 (by decide) ?_
          exact W.iret (v := nI (rho q)) hx hb hr (fun U hU hW => ⟨⟨nI (rho q), mBoxU (gSt σ 0 0 0) rho ord sx cx np (rho q), rfl, by obtain rfl : k = Lf q := (by omega); subst hly hz; exact ⟨by rw [mAtR, if_pos hcd, hpt, nI_clamp (by omega)]; simp [mAtV, c_2, h_2, c_3], by rw [mAtU, if_pos hcd, hpt, nI_clamp (by omega)]⟩, by rw [hU]; exact hP, hD⟩, hS.F hU⟩) hS.2.2 d_Md_at_154
      · 
        have h_2 : ¬ Lf q ≤ k := fun q9 => c_2 ((nI_leI (a := Lf q) (b := k) (by omega) (by omega)).mpr q9)
        refine lv_aload_n hx hb d_Md_at_80 rfl (lv_at hl 0 rfl) ?_
        refine lv_iload hx hb d_Md_at_81 (lv_at hl 5 rfl) ?_
        refine lv_aload_n hx hb d_Md_at_83 rfl (lv_at hl 0 rfl) ?_
        refine va_get (D := D) (ci := 7) (v := .ref (a 15)) (C := R_Md) (T := F_Md) (N := 34) hx hb hts (fun w h => List.mem_cons_of_mem _ (i_Md w h)) hown hK.1 hP 0 (wMd_0 t a (mBoxU (gSt σ 0 0 0) rho ord sx cx np (rho q))) rfl 15 (by decide) (hts (.fieldLink R_Md 44 "FlatBoxesModel" "layerOf" "[I") (List.mem_cons_of_mem _ (gIn k_681 (by decide +kernel)))) (fun _ h9 => h9) rfl d_Md_at_84 ?_
        refine lv_iload_n hx hb d_Md_at_87 rfl (lv_at hl 1 rfl) ?_
        refine g_iald hx hb hK.1 hP 12 0 (wMd_15 t a (mBoxU (gSt σ 0 0 0) rho ord sx cx np (rho q))) rfl q (rfl) (by omega) (by decide) d_Md_at_88 ?_
        refine lv_topi (fun v_7 e_7 => ?_)
        obtain rfl : nI (lpf q) = v_7 := (e_7.trans (hlp)).symm
        refine g_vi (k := 2) (As := [.int (nI k), .int (nI (lpf q))]) (rest := []) (own := R_Md) (C := R_Md) (index := 158) ⟨hx, hb, hml, hown, hts⟩ (c_Md_isBelow l D t a (mBoxU (gSt σ 0 0 0) rho ord sx cx np (rho q)) k (lpf q) (by omega) (by omega) h22) (gg_Md_158 _) (by decide +kernel) ⟨Nat.le_of_ble_eq_true rfl, Nat.le_of_ble_eq_true rfl⟩ rfl (va_recv hK.1 hP (ci := 7) (q0 := 0) rfl (wMd_0 t a (mBoxU (gSt σ 0 0 0) rho ord sx cx np (rho q)))) hK hP hD hS hl.1 rfl (Nat.le_of_ble_eq_true rfl) ⟨Nat.zero_le _, Nat.zero_le _⟩ d_Md_at_89 (fun r_8 u_8 H locs q_8 hP hD hS => ?_)
        obtain ⟨rfl, hu_8⟩ := q_8
        rw [hu_8] at hP hD
        refine lv_if_eq (tgt := 110) hx hb d_Md_at_92 (by decide) (fun c_9 => ?_) (fun c_9 => ?_)
        · 
          refine lv_iinc (v := nI (k + 1)) (lv' := [(5, .int (nI (k + 1))), (0, .ref (a 0)), (1, .int (nI q)), (2, .int wh), (3, .int ly), (4, .int z)]) hx hb d_Md_at_110 hl (k := 5) rfl (nI_1 k) (by decide) rfl (fun ls hl => ?_)
          refine lv_goto (tgt := 71) hx hb d_Md_at_113 (by decide) ?_
          exact ih q (k + 1) ly z _ _ _ (by omega) (by omega) (by omega) (by rw [hly]; simp [mLy, c_2, h_2, c_9]) (by rw [hz]; simp [mLz, c_2, h_2, c_9]) (hpt) (hcd) (hL1) (hL8) (hlp) (hlp8) (h22) (hrq) hP hD hS (lv_sub hl [1, 2, 3, 4, 5, 0] rfl)
        · 
          refine lv_iinc (v := ly + 1) (lv' := [(3, .int (ly + 1)), (0, .ref (a 0)), (1, .int (nI q)), (2, .int wh), (4, .int z), (5, .int (nI k))]) hx hb d_Md_at_95 hl (k := 3) rfl (rfl) (by decide) rfl (fun ls hl => ?_)
          refine lv_iload hx hb d_Md_at_98 (lv_at hl 4 rfl) ?_
          refine lv_aload_n hx hb d_Md_at_100 rfl (lv_at hl 1 rfl) ?_
          refine va_get (D := D) (ci := 7) (v := .ref (a 19)) (C := R_Md) (T := F_Md) (N := 34) hx hb hts (fun w h => List.mem_cons_of_mem _ (i_Md w h)) hown hK.1 hP 0 (wMd_0 t a (mBoxU (gSt σ 0 0 0) rho ord sx cx np (rho q))) rfl 19 (by decide) (hts (.fieldLink R_Md 53 "FlatBoxesModel" "highs" "[I") (List.mem_cons_of_mem _ (gIn k_685 (by decide +kernel)))) (fun _ h9 => h9) rfl d_Md_at_101 ?_
          refine lv_iload hx hb d_Md_at_104 (lv_at hl 5 rfl) ?_
          refine g_iald hx hb hK.1 hP 15 0 (wMd_19 t a (mBoxU (gSt σ 0 0 0) rho ord sx cx np (rho q))) rfl k (rfl) (by omega) (by decide) d_Md_at_106 ?_
          refine lv_iadd hx hb d_Md_at_107 ?_
          refine lv_istore (lv' := [(4, .int (z + ((mBoxU (gSt σ 0 0 0) rho ord sx cx np (rho q)) 19 k))), (3, .int (ly + 1)), (0, .ref (a 0)), (1, .int (nI q)), (2, .int wh), (5, .int (nI k))]) hx hb d_Md_at_108 hl (by decide) rfl (fun ls hl => ?_)
          refine lv_iinc (v := nI (k + 1)) (lv' := [(5, .int (nI (k + 1))), (4, .int (z + ((mBoxU (gSt σ 0 0 0) rho ord sx cx np (rho q)) 19 k))), (3, .int (ly + 1)), (0, .ref (a 0)), (1, .int (nI q)), (2, .int wh)]) hx hb d_Md_at_110 hl (k := 5) rfl (nI_1 k) (by decide) rfl (fun ls hl => ?_)
          refine lv_goto (tgt := 71) hx hb d_Md_at_113 (by decide) ?_
          exact ih q (k + 1) (ly + 1) (z + ((mBoxU (gSt σ 0 0 0) rho ord sx cx np (rho q)) 19 k)) _ _ _ (by omega) (by omega) (by omega) (by rw [hly]; simp [mLy, c_2, h_2, c_9]) (by rw [hz]; simp [mLz, c_2, h_2, c_9]) (hpt) (hcd) (hL1) (hL8) (hlp) (hlp8) (h22) (hrq) hP hD hS (lv_sub hl [3, 4, 5, 2, 1, 0] rfl)
  refine lv_aload_n hx hb d_Md_at_0 rfl (lv_at hl 0 rfl) ?_
  refine lv_aload_n hx hb d_Md_at_1 rfl (lv_at hl 0 rfl) ?_
  refine va_get (D := D) (ci := 7) (v := .int (σ 24 0)) (C := R_Md) (T := F_Md) (N := 34) hx hb hts (fun w h => List.mem_cons_of_mem _ (i_Md w h)) hown hK.1 hP 0 (wMd_0 t a σ) rfl 24 (by decide) (hts (.fieldLink R_Md 108 "FlatBoxesModel" "hasShares" "Z") (List.mem_cons_of_mem _ (gIn k_690 (by decide +kernel)))) (fun _ h9 => h9) rfl d_Md_at_2 ?_
  refine lv_if_ne (tgt := 12) hx hb d_Md_at_5 (by decide) (fun c_10 => ?_) (fun c_10 => ?_)
  · 
    refine lv_iload_n hx hb d_Md_at_12 rfl (lv_at hl 1 rfl) ?_
    refine lv_iconst (v := 0) hx hb d_Md_at_13 (by decide) ?_
    refine lv_aload_n hx hb d_Md_at_14 rfl (lv_at hl 0 rfl) ?_
    refine va_get (D := D) (ci := 7) (v := .int (σ 8 0)) (C := R_Md) (T := F_Md) (N := 34) hx hb hts (fun w h => List.mem_cons_of_mem _ (i_Md w h)) hown hK.1 hP 0 (wMd_0 t a σ) rfl 8 (by decide) (hts (.fieldLink R_Md 113 "FlatBoxesModel" "parts" "I") (List.mem_cons_of_mem _ (gIn k_674 (by decide +kernel)))) (fun _ h9 => h9) rfl d_Md_at_15 ?_
    refine lv_topi (fun v_11 e_11 => ?_)
    obtain rfl : nI np = v_11 := (e_11.trans hN).symm
    refine lv_iconst (v := 1) hx hb d_Md_at_18 (by decide) ?_
    refine lv_isub hx hb d_Md_at_19 ?_
    refine g_si (k := 3) (As := [.int pt, .int 0, .int ((nI np) - 1)]) (rest := [.ref (a 0)]) (own := R_Md) (index := 96) ⟨hx, hb, hml, hown, hts⟩ (c_Md_in l D t a σ pt 0 ((nI np) - 1)) (gg_Md_96 _) (by decide +kernel) ⟨Nat.le_of_ble_eq_true rfl, Nat.le_of_ble_eq_true rfl⟩ rfl hK hP hD hS hl.1 rfl (Nat.le_of_ble_eq_true rfl) ⟨Nat.zero_le _, Nat.zero_le _⟩ d_Md_at_20 (fun r_12 u_12 H locs q_12 hP hD hS => ?_)
    obtain ⟨rfl, hu_12⟩ := q_12
    rw [hu_12] at hP hD
    refine lv_if_eq (tgt := 35) hx hb d_Md_at_23 (by decide) (fun c_13 => ?_) (fun c_13 => ?_)
    · 
      refine lv_iconst (v := 2) hx hb d_Md_at_35 (by decide) ?_
      refine lv_goto (tgt := 40) hx hb d_Md_at_36 (by decide) ?_
      refine va_put (D := D) (ci := 7) (v := .int 2) (ty := .int) (C := R_Md) (T := F_Md) (N := 34) hx hb hts (fun w h => List.mem_cons_of_mem _ (i_Md w h)) t_Md t_Md_ok n_Md hown hK.1 hP hD hS 0 (wMd_0 t a σ) rfl 0 (by decide) (hts (.fieldLink R_Md 93 "FlatBoxesModel" "code" "I") (List.mem_cons_of_mem _ (gIn k_666 (by decide +kernel)))) (fun _ h9 => h9) rfl (by decide +kernel) rfl rfl (Nat.le_of_ble_eq_true rfl) d_Md_at_40 (fun H locs hP hD hS => ?_)
      have hP : va_P D gCl (wMd t a (gSt σ 0 0 2)) H := hP
      have hD : va_D A (wMd t a (gSt σ 0 0 2)) := hD
      refine lv_aload_n hx hb d_Md_at_43 rfl (lv_at hl 0 rfl) ?_
      refine va_get (D := D) (ci := 7) (v := .int ((gSt σ 0 0 2) 0 0)) (C := R_Md) (T := F_Md) (N := 34) hx hb hts (fun w h => List.mem_cons_of_mem _ (i_Md w h)) hown hK.1 hP 0 (wMd_0 t a (gSt σ 0 0 2)) rfl 0 (by decide) (hts (.fieldLink R_Md 93 "FlatBoxesModel" "code" "I") (List.mem_cons_of_mem _ (gIn k_666 (by decide +kernel)))) (fun _ h9 => h9) rfl d_Md_at_44 ?_
      refine lv_topi (fun v_14 e_14 => ?_)
      obtain rfl : 2 = v_14 := (e_14.trans (rfl)).symm
      refine lv_if_le (tgt := 52) hx hb d_Md_at_47 (by decide) (fun c_15 => ?_) (fun c_15 => ?_)
      · 
        exact absurd c_15 (by decide)
      · 
        refine lv_iconst (v := 0) hx hb d_Md_at_50 (by decide) ?_
        exact W.iret (v := 0) hx hb hr (fun U hU hW => ⟨⟨0, gSt σ 0 0 2, rfl, by exact ⟨by simp [mAtR, mAtC, c_10, c_13, c_15], by simp [mAtU, mAtC, c_10, c_13, c_15]⟩, by rw [hU]; exact hP, hD⟩, hS.F hU⟩) hS.2.2 d_Md_at_51
    · 
      refine lv_iload_n hx hb d_Md_at_26 rfl (lv_at hl 2 rfl) ?_
      refine lv_iconst (v := 0) hx hb d_Md_at_27 (by decide) ?_
      refine lv_iconst (v := 3) hx hb d_Md_at_28 (by decide) ?_
      refine g_si (k := 3) (As := [.int wh, .int 0, .int 3]) (rest := [.ref (a 0)]) (own := R_Md) (index := 96) ⟨hx, hb, hml, hown, hts⟩ (c_Md_in l D t a σ wh 0 3) (gg_Md_96 _) (by decide +kernel) ⟨Nat.le_of_ble_eq_true rfl, Nat.le_of_ble_eq_true rfl⟩ rfl hK hP hD hS hl.1 rfl (Nat.le_of_ble_eq_true rfl) ⟨Nat.zero_le _, Nat.zero_le _⟩ d_Md_at_29 (fun r_16 u_16 H locs q_16 hP hD hS => ?_)
      obtain ⟨rfl, hu_16⟩ := q_16
      rw [hu_16] at hP hD
      refine lv_if_ne (tgt := 39) hx hb d_Md_at_32 (by decide) (fun c_17 => ?_) (fun c_17 => ?_)
      · 
        refine lv_iconst (v := 0) hx hb d_Md_at_39 (by decide) ?_
        refine va_put (D := D) (ci := 7) (v := .int 0) (ty := .int) (C := R_Md) (T := F_Md) (N := 34) hx hb hts (fun w h => List.mem_cons_of_mem _ (i_Md w h)) t_Md t_Md_ok n_Md hown hK.1 hP hD hS 0 (wMd_0 t a σ) rfl 0 (by decide) (hts (.fieldLink R_Md 93 "FlatBoxesModel" "code" "I") (List.mem_cons_of_mem _ (gIn k_666 (by decide +kernel)))) (fun _ h9 => h9) rfl (by decide +kernel) rfl rfl (Nat.le_of_ble_eq_true rfl) d_Md_at_40 (fun H locs hP hD hS => ?_)
        have hP : va_P D gCl (wMd t a (gSt σ 0 0 0)) H := hP
        have hD : va_D A (wMd t a (gSt σ 0 0 0)) := hD
        refine lv_aload_n hx hb d_Md_at_43 rfl (lv_at hl 0 rfl) ?_
        refine va_get (D := D) (ci := 7) (v := .int ((gSt σ 0 0 0) 0 0)) (C := R_Md) (T := F_Md) (N := 34) hx hb hts (fun w h => List.mem_cons_of_mem _ (i_Md w h)) hown hK.1 hP 0 (wMd_0 t a (gSt σ 0 0 0)) rfl 0 (by decide) (hts (.fieldLink R_Md 93 "FlatBoxesModel" "code" "I") (List.mem_cons_of_mem _ (gIn k_666 (by decide +kernel)))) (fun _ h9 => h9) rfl d_Md_at_44 ?_
        refine lv_topi (fun v_18 e_18 => ?_)
        obtain rfl : 0 = v_18 := (e_18.trans (rfl)).symm
        refine lv_if_le (tgt := 52) hx hb d_Md_at_47 (by decide) (fun c_19 => ?_) (fun c_19 => ?_)
        · 
          have hcd : mAtC σ np pt wh = 0 := by simp [mAtC, c_10, c_13, c_17, c_19]
          have hS1 := hsh c_10
          have hn8 := hS1.2.1
          obtain ⟨q, hq, rfl⟩ := mIn_nat (n := np) (by omega) c_13
          have hrn := (hS1.1 q hq).2
          have hS2 := hS1.2.2.2.1 (rho q) hrn
          have hA9 := hat c_10 q hq
          obtain ⟨hL1, hL8, hlp, hlp8, h22⟩ := hA9
          refine lv_aload_n hx hb d_Md_at_52 rfl (lv_at hl 0 rfl) ?_
          refine lv_aload_n hx hb d_Md_at_53 rfl (lv_at hl 0 rfl) ?_
          refine va_get (D := D) (ci := 7) (v := .ref (a 26)) (C := R_Md) (T := F_Md) (N := 34) hx hb hts (fun w h => List.mem_cons_of_mem _ (i_Md w h)) hown hK.1 hP 0 (wMd_0 t a (gSt σ 0 0 0)) rfl 26 (by decide) (hts (.fieldLink R_Md 68 "FlatBoxesModel" "shares" "[I") (List.mem_cons_of_mem _ (gIn k_692 (by decide +kernel)))) (fun _ h9 => h9) rfl d_Md_at_54 ?_
          refine lv_iload_n hx hb d_Md_at_57 rfl (lv_at hl 1 rfl) ?_
          refine g_iald hx hb hK.1 hP 20 0 (wMd_26 t a (gSt σ 0 0 0)) rfl q (rfl) (by omega) (by decide) d_Md_at_58 ?_
          refine lv_topi (fun v_20 e_20 => ?_)
          obtain rfl : nI (rho q) = v_20 := (e_20.trans ((hS1.1 q hq).1)).symm
          refine g_vi (k := 1) (As := [.int (nI (rho q))]) (rest := []) (own := R_Md) (C := R_Md) (index := 155) ⟨hx, hb, hml, hown, hts⟩ (c_Md_packBox l D t a (gSt σ 0 0 0) (rho q) np (sx (rho q)) (cx (rho q)) rho ord hN hN8 (by omega) (fun q hq => ⟨(hS1.1 q hq).1, by have := (hS1.1 q hq).2; have := hS1.2.1; omega⟩) hS2.1 hS2.2.1 hS2.2.2.1 hS2.2.2.2 hord) (gg_Md_155 _) (by decide +kernel) ⟨Nat.le_of_ble_eq_true rfl, Nat.le_of_ble_eq_true rfl⟩ rfl (va_recv hK.1 hP (ci := 7) (q0 := 0) rfl (wMd_0 t a (gSt σ 0 0 0))) hK hP hD hS hl.1 rfl (Nat.le_of_ble_eq_true rfl) ⟨Nat.zero_le _, Nat.zero_le _⟩ d_Md_at_59 (fun r_21 u_21 H locs q_21 hP hD hS => ?_)
          obtain ⟨rfl, hu_21⟩ := q_21
          rw [hu_21] at hP hD
          have hP : va_P D gCl (wMd t a (mBoxU (gSt σ 0 0 0) rho ord sx cx np (rho q))) H := hP
          have hD : va_D A (wMd t a (mBoxU (gSt σ 0 0 0) rho ord sx cx np (rho q))) := hD
          refine lv_pop hx hb d_Md_at_62 rfl ?_
          refine lv_iconst (v := 0) hx hb d_Md_at_63 (by decide) ?_
          refine lv_istore_n (lv' := [(3, .int 0), (0, .ref (a 0)), (1, .int (nI q)), (2, .int wh)]) hx hb d_Md_at_64 rfl hl (by decide) rfl (fun ls hl => ?_)
          refine lv_iconst (v := 0) hx hb d_Md_at_65 (by decide) ?_
          refine lv_istore (lv' := [(4, .int 0), (3, .int 0), (0, .ref (a 0)), (1, .int (nI q)), (2, .int wh)]) hx hb d_Md_at_66 hl (by decide) rfl (fun ls hl => ?_)
          refine lv_iconst (v := 0) hx hb d_Md_at_68 (by decide) ?_
          refine lv_istore (lv' := [(5, .int 0), (4, .int 0), (3, .int 0), (0, .ref (a 0)), (1, .int (nI q)), (2, .int wh)]) hx hb d_Md_at_69 hl (by decide) rfl (fun ls hl => ?_)
          exact cut_71 (Lf q + 1) q 0 0 0 _ _ _ (by omega) (by omega) (by omega) (rfl) (rfl) (rfl) (hcd) (hL1) (hL8) (hlp) (hlp8) (h22) ((congrFun (mBoxU_fix (gSt σ 0 0 0) rho ord sx cx np (rho q) (by omega) (by decide)) q).trans (hS1.1 q hq).1) hP hD hS (lv_sub hl [3, 4, 5, 2, 1, 0] rfl)
        · 
          exact absurd c_19 (by decide)
      · 
        refine lv_iconst (v := 2) hx hb d_Md_at_35 (by decide) ?_
        refine lv_goto (tgt := 40) hx hb d_Md_at_36 (by decide) ?_
        refine va_put (D := D) (ci := 7) (v := .int 2) (ty := .int) (C := R_Md) (T := F_Md) (N := 34) hx hb hts (fun w h => List.mem_cons_of_mem _ (i_Md w h)) t_Md t_Md_ok n_Md hown hK.1 hP hD hS 0 (wMd_0 t a σ) rfl 0 (by decide) (hts (.fieldLink R_Md 93 "FlatBoxesModel" "code" "I") (List.mem_cons_of_mem _ (gIn k_666 (by decide +kernel)))) (fun _ h9 => h9) rfl (by decide +kernel) rfl rfl (Nat.le_of_ble_eq_true rfl) d_Md_at_40 (fun H locs hP hD hS => ?_)
        have hP : va_P D gCl (wMd t a (gSt σ 0 0 2)) H := hP
        have hD : va_D A (wMd t a (gSt σ 0 0 2)) := hD
        refine lv_aload_n hx hb d_Md_at_43 rfl (lv_at hl 0 rfl) ?_
        refine va_get (D := D) (ci := 7) (v := .int ((gSt σ 0 0 2) 0 0)) (C := R_Md) (T := F_Md) (N := 34) hx hb hts (fun w h => List.mem_cons_of_mem _ (i_Md w h)) hown hK.1 hP 0 (wMd_0 t a (gSt σ 0 0 2)) rfl 0 (by decide) (hts (.fieldLink R_Md 93 "FlatBoxesModel" "code" "I") (List.mem_cons_of_mem _ (gIn k_666 (by decide +kernel)))) (fun _ h9 => h9) rfl d_Md_at_44 ?_
        refine lv_topi (fun v_22 e_22 => ?_)
        obtain rfl : 2 = v_22 := (e_22.trans (rfl)).symm
        refine lv_if_le (tgt := 52) hx hb d_Md_at_47 (by decide) (fun c_23 => ?_) (fun c_23 => ?_)
        · 
          exact absurd c_23 (by decide)
        · 
          refine lv_iconst (v := 0) hx hb d_Md_at_50 (by decide) ?_
          exact W.iret (v := 0) hx hb hr (fun U hU hW => ⟨⟨0, gSt σ 0 0 2, rfl, by exact ⟨by simp [mAtR, mAtC, c_10, c_13, c_17, c_23], by simp [mAtU, mAtC, c_10, c_13, c_17, c_23]⟩, by rw [hU]; exact hP, hD⟩, hS.F hU⟩) hS.2.2 d_Md_at_51
  · 
    refine lv_iconst (v := 1) hx hb d_Md_at_8 (by decide) ?_
    refine lv_goto (tgt := 40) hx hb d_Md_at_9 (by decide) ?_
    refine va_put (D := D) (ci := 7) (v := .int 1) (ty := .int) (C := R_Md) (T := F_Md) (N := 34) hx hb hts (fun w h => List.mem_cons_of_mem _ (i_Md w h)) t_Md t_Md_ok n_Md hown hK.1 hP hD hS 0 (wMd_0 t a σ) rfl 0 (by decide) (hts (.fieldLink R_Md 93 "FlatBoxesModel" "code" "I") (List.mem_cons_of_mem _ (gIn k_666 (by decide +kernel)))) (fun _ h9 => h9) rfl (by decide +kernel) rfl rfl (Nat.le_of_ble_eq_true rfl) d_Md_at_40 (fun H locs hP hD hS => ?_)
    have hP : va_P D gCl (wMd t a (gSt σ 0 0 1)) H := hP
    have hD : va_D A (wMd t a (gSt σ 0 0 1)) := hD
    refine lv_aload_n hx hb d_Md_at_43 rfl (lv_at hl 0 rfl) ?_
    refine va_get (D := D) (ci := 7) (v := .int ((gSt σ 0 0 1) 0 0)) (C := R_Md) (T := F_Md) (N := 34) hx hb hts (fun w h => List.mem_cons_of_mem _ (i_Md w h)) hown hK.1 hP 0 (wMd_0 t a (gSt σ 0 0 1)) rfl 0 (by decide) (hts (.fieldLink R_Md 93 "FlatBoxesModel" "code" "I") (List.mem_cons_of_mem _ (gIn k_666 (by decide +kernel)))) (fun _ h9 => h9) rfl d_Md_at_44 ?_
    refine lv_topi (fun v_24 e_24 => ?_)
    obtain rfl : 1 = v_24 := (e_24.trans (rfl)).symm
    refine lv_if_le (tgt := 52) hx hb d_Md_at_47 (by decide) (fun c_25 => ?_) (fun c_25 => ?_)
    · 
      exact absurd c_25 (by decide)
    · 
      refine lv_iconst (v := 0) hx hb d_Md_at_50 (by decide) ?_
      exact W.iret (v := 0) hx hb hr (fun U hU hW => ⟨⟨0, gSt σ 0 0 1, rfl, by exact ⟨by simp [mAtR, mAtC, c_10, c_25], by simp [mAtU, mAtC, c_10, c_25]⟩, by rw [hU]; exact hP, hD⟩, hS.F hU⟩) hS.2.2 d_Md_at_51
set_option maxHeartbeats 4000000 in
set_option maxRecDepth 100000 in
theorem c_Md_box (l : Launch) (D : va_G) (t : Nat → ClassId) (a : Nat → Nat) (σ : Nat → Nat → Int32) (bv wh : Int32) (ord Lb : Nat → Nat) (np nbx : Nat) (rho sx cx : Nat → Nat) (hN : σ 8 0 = nI np) (hN8 : np ≤ 8) (hsh : ¬ σ 24 0 = 0 → mShOK (gSt σ 0 0 0) np nbx rho sx cx) (hord : ∀ k, k < np → ord k < np ∧ mBT (σ 11) np (nI k) np 0 = nI (ord k)) (hat : ¬ σ 24 0 = 0 → ∀ b, b < nbx → (mBoxU (gSt σ 0 0 0) rho ord sx cx np b) 17 0 = nI (Lb b) ∧ Lb b ≤ 8) : gMi l D t y_Md_box b_Md_box 6 (some .int) 3 [.ref (a 0), .int bv, .int wh] (wMd t a σ) (wMd t a) (fun r u => r = mBxR σ np nbx rho ord sx cx Lb bv wh ∧ u = mBxU σ np nbx rho ord sx cx bv wh) := by
  intro A
  refine Met.ofW (cc := b_Md_box) (maxL := 6) (ret := (some .int)) (by decide) rfl ?_
  intro p e s m args below meth c s₁ B hml hv
  obtain ⟨rfl, hK, hP, hD⟩ := hv
  have hx := B.exec
  have hb := B.bytes
  have hr := B.returns
  have hts := atoms_spec (ws := .code y_Md_box b_Md_box 6 (some .int) :: gBig) B.pre
  have hown : s.vm.findClass R_Md = some m.cls := findClass_of_methodNamed B.named
  have hlocks := B.notSynchronized
  have hS : va_S A s.heap s.heap [] := va_S.rf
  have hl := lv_entry ([.ref (a 0), .int bv, .int wh]) (n := 6) (Nat.le_of_ble_eq_true rfl)
  rw [lg_entry_eq]
  generalize (lg_sl ([.ref (a 0), .int bv, .int wh]) ++ List.replicate (6 - (lg_sl ([.ref (a 0), .int bv, .int wh])).length) Slot.unset).toArray = ls at hl ⊢
  have hl : lv_has ls 6 [(0, .ref (a 0)), (1, .int bv), (2, .int wh)] := hl
  show gGo l p e s m below meth c D t A 3 [.ref (a 0), .int bv, .int wh] (wMd t a) (fun r u => r = mBxR σ np nbx rho ord sx cx Lb bv wh ∧ u = mBxU σ np nbx rho ord sx cx bv wh) s.heap [] (F0 m 0 ls [])
  have cut_64 : ∀ (n : Nat) (b : Nat) (k : Nat) (nn : Int32) (H : Heap) (locs : List Loc) (ls : Array Slot), (b < 8) → (k ≤ np) → (np + 1 ≤ k + n) → (nn = mBoxN (mBoxU (gSt σ 0 0 0) rho ord sx cx np b) (nI b) k) → (bv = nI b) → (mBxC σ nbx bv wh = 0) → ((mBoxU (gSt σ 0 0 0) rho ord sx cx np b) 17 0 = nI (Lb b)) → (Lb b ≤ 8) → ((mBoxU (gSt σ 0 0 0) rho ord sx cx np b) 8 0 = nI np) → ((mBoxU (gSt σ 0 0 0) rho ord sx cx np b) 28 b = nI (sx b)) → va_P D gCl (wMd t a (mBoxU (gSt σ 0 0 0) rho ord sx cx np b)) H → va_D A (wMd t a (mBoxU (gSt σ 0 0 0) rho ord sx cx np b)) → va_S A s.heap H locs → lv_has ls 6 [(0, .ref (a 0)), (1, .int (nI b)), (2, .int wh), (3, .int (nI (cx b))), (4, .int nn), (5, .int (nI k))] → gGo l p e s m below meth c D t A 3 [.ref (a 0), .int bv, .int wh] (wMd t a) (fun r u => r = mBxR σ np nbx rho ord sx cx Lb bv wh ∧ u = mBxU σ np nbx rho ord sx cx bv wh) H locs (F0 m 64 ls []) := by
    intro n
    induction n with
    | zero =>
      intro b k nn H locs ls hb9 hk hf hnn hbv hcd hL1 hL8 h8 h28 hP hD hS hl
      exact absurd hf (by omega)
    | succ n ih =>
      intro b k nn H locs ls hb9 hk hf hnn hbv hcd hL1 hL8 h8 h28 hP hD hS hl
      refine lv_iload hx hb d_Md_box_64 (lv_at hl 5 rfl) ?_
      refine lv_aload_n hx hb d_Md_box_66 rfl (lv_at hl 0 rfl) ?_
      refine va_get (D := D) (ci := 7) (v := .int ((mBoxU (gSt σ 0 0 0) rho ord sx cx np b) 8 0)) (C := R_Md) (T := F_Md) (N := 34) hx hb hts (fun w h => List.mem_cons_of_mem _ (i_Md w h)) hown hK.1 hP 0 (wMd_0 t a (mBoxU (gSt σ 0 0 0) rho ord sx cx np b)) rfl 8 (by decide) (hts (.fieldLink R_Md 113 "FlatBoxesModel" "parts" "I") (List.mem_cons_of_mem _ (gIn k_674 (by decide +kernel)))) (fun _ h9 => h9) rfl d_Md_box_67 ?_
      refine lv_topi (fun v_1 e_1 => ?_)
      obtain rfl : nI np = v_1 := (e_1.trans (h8)).symm
      refine lv_icmp_ge (tgt := 100) hx hb d_Md_box_70 (by decide) (fun c_2 => ?_) (fun c_2 => ?_)
      · 
        have h_2 : np ≤ k := (nI_leI (a := np) (b := k) (by omega) (by omega)).mp c_2
        refine lv_iload_n hx hb d_Md_box_100 rfl (lv_at hl 2 rfl) ?_
        refine lv_if_ne (tgt := 108) hx hb d_Md_box_101 (by decide) (fun c_3 => ?_) (fun c_3 => ?_)
        · 
          refine lv_iload_n hx hb d_Md_box_108 rfl (lv_at hl 2 rfl) ?_
          refine lv_iconst (v := 1) hx hb d_Md_box_109 (by decide) ?_
          refine lv_icmp_ne (tgt := 118) hx hb d_Md_box_110 (by decide) (fun c_4 => ?_) (fun c_4 => ?_)
          · 
            refine lv_iload_n hx hb d_Md_box_118 rfl (lv_at hl 2 rfl) ?_
            refine lv_iconst (v := 2) hx hb d_Md_box_119 (by decide) ?_
            refine lv_icmp_ne (tgt := 136) hx hb d_Md_box_120 (by decide) (fun c_5 => ?_) (fun c_5 => ?_)
            · 
              refine lv_iload_n hx hb d_Md_box_136 rfl (lv_at hl 2 rfl) ?_
              refine lv_iconst (v := 3) hx hb d_Md_box_137 (by decide) ?_
              refine lv_icmp_ne (tgt := 148) hx hb d_Md_box_138 (by decide) (fun c_6 => ?_) (fun c_6 => ?_)
              · 
                refine lv_aload_n hx hb d_Md_box_148 rfl (lv_at hl 0 rfl) ?_
                refine g_vi (k := 0) (As := []) (rest := []) (own := R_Md) (C := R_Md) (index := 131) ⟨hx, hb, hml, hown, hts⟩ (c_Md_highOf l D t a (mBoxU (gSt σ 0 0 0) rho ord sx cx np b) (Lb b) hL1 hL8) (gg_Md_131 _) (by decide +kernel) ⟨Nat.le_of_ble_eq_true rfl, Nat.le_of_ble_eq_true rfl⟩ rfl (va_recv hK.1 hP (ci := 7) (q0 := 0) rfl (wMd_0 t a (mBoxU (gSt σ 0 0 0) rho ord sx cx np b))) hK hP hD hS hl.1 rfl (Nat.le_of_ble_eq_true rfl) ⟨Nat.zero_le _, Nat.zero_le _⟩ d_Md_box_149 (fun r_7 u_7 H locs q_7 hP hD hS => ?_)
                obtain ⟨rfl, hu_7⟩ := q_7
                rw [hu_7] at hP hD
                exact W.iret (v := mSum ((mBoxU (gSt σ 0 0 0) rho ord sx cx np b) 19) (Lb b)) hx hb hr (fun U hU hW => ⟨⟨mSum ((mBoxU (gSt σ 0 0 0) rho ord sx cx np b) 19) (Lb b), mBoxU (gSt σ 0 0 0) rho ord sx cx np b, rfl, by obtain rfl : k = np := (by omega); subst hnn; exact ⟨by rw [mBxR, if_pos hcd, hbv, nI_clamp (by omega)]; simp [mBxV, c_2, h_2, c_3, c_4, c_5, c_6], by rw [mBxU, if_pos hcd, hbv, nI_clamp (by omega)]⟩, by rw [hU]; exact hP, hD⟩, hS.F hU⟩) hS.2.2 d_Md_box_152
              · 
                refine lv_aload_n hx hb d_Md_box_141 rfl (lv_at hl 0 rfl) ?_
                refine va_get (D := D) (ci := 7) (v := .int ((mBoxU (gSt σ 0 0 0) rho ord sx cx np b) 17 0)) (C := R_Md) (T := F_Md) (N := 34) hx hb hts (fun w h => List.mem_cons_of_mem _ (i_Md w h)) hown hK.1 hP 0 (wMd_0 t a (mBoxU (gSt σ 0 0 0) rho ord sx cx np b)) rfl 17 (by decide) (hts (.fieldLink R_Md 116 "FlatBoxesModel" "layers" "I") (List.mem_cons_of_mem _ (gIn k_683 (by decide +kernel)))) (fun _ h9 => h9) rfl d_Md_box_142 ?_
                refine lv_topi (fun v_8 e_8 => ?_)
                obtain rfl : nI (Lb b) = v_8 := (e_8.trans (hL1)).symm
                refine lv_goto (tgt := 152) hx hb d_Md_box_145 (by decide) ?_
                exact W.iret (v := nI (Lb b)) hx hb hr (fun U hU hW => ⟨⟨nI (Lb b), mBoxU (gSt σ 0 0 0) rho ord sx cx np b, rfl, by obtain rfl : k = np := (by omega); subst hnn; exact ⟨by rw [mBxR, if_pos hcd, hbv, nI_clamp (by omega)]; simp [mBxV, c_2, h_2, c_3, c_4, c_5, c_6], by rw [mBxU, if_pos hcd, hbv, nI_clamp (by omega)]⟩, by rw [hU]; exact hP, hD⟩, hS.F hU⟩) hS.2.2 d_Md_box_152
            · 
              refine lv_aload_n hx hb d_Md_box_123 rfl (lv_at hl 0 rfl) ?_
              refine lv_aload_n hx hb d_Md_box_124 rfl (lv_at hl 0 rfl) ?_
              refine va_get (D := D) (ci := 7) (v := .ref (a 28)) (C := R_Md) (T := F_Md) (N := 34) hx hb hts (fun w h => List.mem_cons_of_mem _ (i_Md w h)) hown hK.1 hP 0 (wMd_0 t a (mBoxU (gSt σ 0 0 0) rho ord sx cx np b)) rfl 28 (by decide) (hts (.fieldLink R_Md 74 "FlatBoxesModel" "sets" "[I") (List.mem_cons_of_mem _ (gIn k_694 (by decide +kernel)))) (fun _ h9 => h9) rfl d_Md_box_125 ?_
              refine lv_iload_n hx hb d_Md_box_128 rfl (lv_at hl 1 rfl) ?_
              refine g_iald hx hb hK.1 hP 22 0 (wMd_28 t a (mBoxU (gSt σ 0 0 0) rho ord sx cx np b)) rfl b (rfl) (by omega) (by decide) d_Md_box_129 ?_
              refine lv_topi (fun v_9 e_9 => ?_)
              obtain rfl : nI (sx b) = v_9 := (e_9.trans (h28)).symm
              refine g_vi (k := 1) (As := [.int (nI (sx b))]) (rest := []) (own := R_Md) (C := R_Md) (index := 161) ⟨hx, hb, hml, hown, hts⟩ (c_Md_gramsOf l D t a (mBoxU (gSt σ 0 0 0) rho ord sx cx np b) (nI (sx b)) np (h8) (hN8)) (gg_Md_161 _) (by decide +kernel) ⟨Nat.le_of_ble_eq_true rfl, Nat.le_of_ble_eq_true rfl⟩ rfl (va_recv hK.1 hP (ci := 7) (q0 := 0) rfl (wMd_0 t a (mBoxU (gSt σ 0 0 0) rho ord sx cx np b))) hK hP hD hS hl.1 rfl (Nat.le_of_ble_eq_true rfl) ⟨Nat.zero_le _, Nat.zero_le _⟩ d_Md_box_130 (fun r_10 u_10 H locs q_10 hP hD hS => ?_)
              obtain ⟨rfl, hu_10⟩ := q_10
              rw [hu_10] at hP hD
              refine lv_goto (tgt := 152) hx hb d_Md_box_133 (by decide) ?_
              exact W.iret (v := mGrams (mBoxU (gSt σ 0 0 0) rho ord sx cx np b) (nI (sx b)) np) hx hb hr (fun U hU hW => ⟨⟨mGrams (mBoxU (gSt σ 0 0 0) rho ord sx cx np b) (nI (sx b)) np, mBoxU (gSt σ 0 0 0) rho ord sx cx np b, rfl, by obtain rfl : k = np := (by omega); subst hnn; exact ⟨by rw [mBxR, if_pos hcd, hbv, nI_clamp (by omega)]; simp [mBxV, c_2, h_2, c_3, c_4, c_5], by rw [mBxU, if_pos hcd, hbv, nI_clamp (by omega)]⟩, by rw [hU]; exact hP, hD⟩, hS.F hU⟩) hS.2.2 d_Md_box_152
          · 
            refine lv_iload hx hb d_Md_box_113 (lv_at hl 4 rfl) ?_
            refine lv_goto (tgt := 152) hx hb d_Md_box_115 (by decide) ?_
            exact W.iret (v := nn) hx hb hr (fun U hU hW => ⟨⟨nn, mBoxU (gSt σ 0 0 0) rho ord sx cx np b, rfl, by obtain rfl : k = np := (by omega); subst hnn; exact ⟨by rw [mBxR, if_pos hcd, hbv, nI_clamp (by omega)]; simp [mBxV, c_2, h_2, c_3, c_4], by rw [mBxU, if_pos hcd, hbv, nI_clamp (by omega)]⟩, by rw [hU]; exact hP, hD⟩, hS.F hU⟩) hS.2.2 d_Md_box_152
        · 
          refine lv_iload_n hx hb d_Md_box_104 rfl (lv_at hl 3 rfl) ?_
          refine lv_goto (tgt := 152) hx hb d_Md_box_105 (by decide) ?_
          exact W.iret (v := nI (cx b)) hx hb hr (fun U hU hW => ⟨⟨nI (cx b), mBoxU (gSt σ 0 0 0) rho ord sx cx np b, rfl, by obtain rfl : k = np := (by omega); subst hnn; exact ⟨by rw [mBxR, if_pos hcd, hbv, nI_clamp (by omega)]; simp [mBxV, c_2, h_2, c_3], by rw [mBxU, if_pos hcd, hbv, nI_clamp (by omega)]⟩, by rw [hU]; exact hP, hD⟩, hS.F hU⟩) hS.2.2 d_Md_box_152
      · 
        have h_2 : ¬ np ≤ k := fun q9 => c_2 ((nI_leI (a := np) (b := k) (by omega) (by omega)).mpr q9)
        refine lv_iload hx hb d_Md_box_73 (lv_at hl 4 rfl) ?_
        refine lv_aload_n hx hb d_Md_box_75 rfl (lv_at hl 0 rfl) ?_
        refine va_get (D := D) (ci := 7) (v := .ref (a 26)) (C := R_Md) (T := F_Md) (N := 34) hx hb hts (fun w h => List.mem_cons_of_mem _ (i_Md w h)) hown hK.1 hP 0 (wMd_0 t a (mBoxU (gSt σ 0 0 0) rho ord sx cx np b)) rfl 26 (by decide) (hts (.fieldLink R_Md 68 "FlatBoxesModel" "shares" "[I") (List.mem_cons_of_mem _ (gIn k_692 (by decide +kernel)))) (fun _ h9 => h9) rfl d_Md_box_76 ?_
        refine lv_iload hx hb d_Md_box_79 (lv_at hl 5 rfl) ?_
        refine g_iald hx hb hK.1 hP 20 0 (wMd_26 t a (mBoxU (gSt σ 0 0 0) rho ord sx cx np b)) rfl k (rfl) (by omega) (by decide) d_Md_box_81 ?_
        refine lv_iload_n hx hb d_Md_box_82 rfl (lv_at hl 1 rfl) ?_
        refine lv_icmp_ne (tgt := 90) hx hb d_Md_box_83 (by decide) (fun c_11 => ?_) (fun c_11 => ?_)
        · 
          refine lv_iconst (v := 0) hx hb d_Md_box_90 (by decide) ?_
          refine lv_iadd hx hb d_Md_box_91 ?_
          refine lv_istore (lv' := [(4, .int (nn + 0)), (0, .ref (a 0)), (1, .int (nI b)), (2, .int wh), (3, .int (nI (cx b))), (5, .int (nI k))]) hx hb d_Md_box_92 hl (by decide) rfl (fun ls hl => ?_)
          refine lv_iinc (v := nI (k + 1)) (lv' := [(5, .int (nI (k + 1))), (4, .int (nn + 0)), (0, .ref (a 0)), (1, .int (nI b)), (2, .int wh), (3, .int (nI (cx b)))]) hx hb d_Md_box_94 hl (k := 5) rfl (nI_1 k) (by decide) rfl (fun ls hl => ?_)
          refine lv_goto (tgt := 64) hx hb d_Md_box_97 (by decide) ?_
          exact ih b (k + 1) (nn + 0) _ _ _ (by omega) (by omega) (by omega) (by rw [hnn]; simp [mBoxN, c_2, h_2, c_11]) (hbv) (hcd) (hL1) (hL8) (h8) (h28) hP hD hS (lv_sub hl [2, 3, 4, 5, 1, 0] rfl)
        · 
          refine lv_iconst (v := 1) hx hb d_Md_box_86 (by decide) ?_
          refine lv_goto (tgt := 91) hx hb d_Md_box_87 (by decide) ?_
          refine lv_iadd hx hb d_Md_box_91 ?_
          refine lv_istore (lv' := [(4, .int (nn + 1)), (0, .ref (a 0)), (1, .int (nI b)), (2, .int wh), (3, .int (nI (cx b))), (5, .int (nI k))]) hx hb d_Md_box_92 hl (by decide) rfl (fun ls hl => ?_)
          refine lv_iinc (v := nI (k + 1)) (lv' := [(5, .int (nI (k + 1))), (4, .int (nn + 1)), (0, .ref (a 0)), (1, .int (nI b)), (2, .int wh), (3, .int (nI (cx b)))]) hx hb d_Md_box_94 hl (k := 5) rfl (nI_1 k) (by decide) rfl (fun ls hl => ?_)
          refine lv_goto (tgt := 64) hx hb d_Md_box_97 (by decide) ?_
          exact ih b (k + 1) (nn + 1) _ _ _ (by omega) (by omega) (by omega) (by rw [hnn]; simp [mBoxN, c_2, h_2, c_11]) (hbv) (hcd) (hL1) (hL8) (h8) (h28) hP hD hS (lv_sub hl [2, 3, 4, 5, 1, 0] rfl)
  refine lv_aload_n hx hb d_Md_box_0 rfl (lv_at hl 0 rfl) ?_
  refine lv_aload_n hx hb d_Md_box_1 rfl (lv_at hl 0 rfl) ?_
  refine va_get (D := D) (ci := 7) (v := .int (σ 24 0)) (C := R_Md) (T := F_Md) (N := 34) hx hb hts (fun w h => List.mem_cons_of_mem _ (i_Md w h)) hown hK.1 hP 0 (wMd_0 t a σ) rfl 24 (by decide) (hts (.fieldLink R_Md 108 "FlatBoxesModel" "hasShares" "Z") (List.mem_cons_of_mem _ (gIn k_690 (by decide +kernel)))) (fun _ h9 => h9) rfl d_Md_box_2 ?_
  refine lv_if_ne (tgt := 12) hx hb d_Md_box_5 (by decide) (fun c_12 => ?_) (fun c_12 => ?_)
  · 
    refine lv_iload_n hx hb d_Md_box_12 rfl (lv_at hl 1 rfl) ?_
    refine lv_iconst (v := 0) hx hb d_Md_box_13 (by decide) ?_
    refine lv_aload_n hx hb d_Md_box_14 rfl (lv_at hl 0 rfl) ?_
    refine va_get (D := D) (ci := 7) (v := .int (σ 25 0)) (C := R_Md) (T := F_Md) (N := 34) hx hb hts (fun w h => List.mem_cons_of_mem _ (i_Md w h)) hown hK.1 hP 0 (wMd_0 t a σ) rfl 25 (by decide) (hts (.fieldLink R_Md 141 "FlatBoxesModel" "boxes" "I") (List.mem_cons_of_mem _ (gIn k_691 (by decide +kernel)))) (fun _ h9 => h9) rfl d_Md_box_15 ?_
    refine lv_topi (fun v_13 e_13 => ?_)
    obtain rfl : nI nbx = v_13 := (e_13.trans ((hsh c_12).2.2.1)).symm
    refine lv_iconst (v := 1) hx hb d_Md_box_18 (by decide) ?_
    refine lv_isub hx hb d_Md_box_19 ?_
    refine g_si (k := 3) (As := [.int bv, .int 0, .int ((nI nbx) - 1)]) (rest := [.ref (a 0)]) (own := R_Md) (index := 96) ⟨hx, hb, hml, hown, hts⟩ (c_Md_in l D t a σ bv 0 ((nI nbx) - 1)) (gg_Md_96 _) (by decide +kernel) ⟨Nat.le_of_ble_eq_true rfl, Nat.le_of_ble_eq_true rfl⟩ rfl hK hP hD hS hl.1 rfl (Nat.le_of_ble_eq_true rfl) ⟨Nat.zero_le _, Nat.zero_le _⟩ d_Md_box_20 (fun r_14 u_14 H locs q_14 hP hD hS => ?_)
    obtain ⟨rfl, hu_14⟩ := q_14
    rw [hu_14] at hP hD
    refine lv_if_eq (tgt := 35) hx hb d_Md_box_23 (by decide) (fun c_15 => ?_) (fun c_15 => ?_)
    · 
      refine lv_iconst (v := 2) hx hb d_Md_box_35 (by decide) ?_
      refine lv_goto (tgt := 40) hx hb d_Md_box_36 (by decide) ?_
      refine va_put (D := D) (ci := 7) (v := .int 2) (ty := .int) (C := R_Md) (T := F_Md) (N := 34) hx hb hts (fun w h => List.mem_cons_of_mem _ (i_Md w h)) t_Md t_Md_ok n_Md hown hK.1 hP hD hS 0 (wMd_0 t a σ) rfl 0 (by decide) (hts (.fieldLink R_Md 93 "FlatBoxesModel" "code" "I") (List.mem_cons_of_mem _ (gIn k_666 (by decide +kernel)))) (fun _ h9 => h9) rfl (by decide +kernel) rfl rfl (Nat.le_of_ble_eq_true rfl) d_Md_box_40 (fun H locs hP hD hS => ?_)
      have hP : va_P D gCl (wMd t a (gSt σ 0 0 2)) H := hP
      have hD : va_D A (wMd t a (gSt σ 0 0 2)) := hD
      refine lv_aload_n hx hb d_Md_box_43 rfl (lv_at hl 0 rfl) ?_
      refine va_get (D := D) (ci := 7) (v := .int ((gSt σ 0 0 2) 0 0)) (C := R_Md) (T := F_Md) (N := 34) hx hb hts (fun w h => List.mem_cons_of_mem _ (i_Md w h)) hown hK.1 hP 0 (wMd_0 t a (gSt σ 0 0 2)) rfl 0 (by decide) (hts (.fieldLink R_Md 93 "FlatBoxesModel" "code" "I") (List.mem_cons_of_mem _ (gIn k_666 (by decide +kernel)))) (fun _ h9 => h9) rfl d_Md_box_44 ?_
      refine lv_topi (fun v_16 e_16 => ?_)
      obtain rfl : 2 = v_16 := (e_16.trans (rfl)).symm
      refine lv_if_le (tgt := 52) hx hb d_Md_box_47 (by decide) (fun c_17 => ?_) (fun c_17 => ?_)
      · 
        exact absurd c_17 (by decide)
      · 
        refine lv_iconst (v := 0) hx hb d_Md_box_50 (by decide) ?_
        exact W.iret (v := 0) hx hb hr (fun U hU hW => ⟨⟨0, gSt σ 0 0 2, rfl, by exact ⟨by simp [mBxR, mBxC, c_12, c_15, c_17], by simp [mBxU, mBxC, c_12, c_15, c_17]⟩, by rw [hU]; exact hP, hD⟩, hS.F hU⟩) hS.2.2 d_Md_box_51
    · 
      refine lv_iload_n hx hb d_Md_box_26 rfl (lv_at hl 2 rfl) ?_
      refine lv_iconst (v := 0) hx hb d_Md_box_27 (by decide) ?_
      refine lv_iconst (v := 4) hx hb d_Md_box_28 (by decide) ?_
      refine g_si (k := 3) (As := [.int wh, .int 0, .int 4]) (rest := [.ref (a 0)]) (own := R_Md) (index := 96) ⟨hx, hb, hml, hown, hts⟩ (c_Md_in l D t a σ wh 0 4) (gg_Md_96 _) (by decide +kernel) ⟨Nat.le_of_ble_eq_true rfl, Nat.le_of_ble_eq_true rfl⟩ rfl hK hP hD hS hl.1 rfl (Nat.le_of_ble_eq_true rfl) ⟨Nat.zero_le _, Nat.zero_le _⟩ d_Md_box_29 (fun r_18 u_18 H locs q_18 hP hD hS => ?_)
      obtain ⟨rfl, hu_18⟩ := q_18
      rw [hu_18] at hP hD
      refine lv_if_ne (tgt := 39) hx hb d_Md_box_32 (by decide) (fun c_19 => ?_) (fun c_19 => ?_)
      · 
        refine lv_iconst (v := 0) hx hb d_Md_box_39 (by decide) ?_
        refine va_put (D := D) (ci := 7) (v := .int 0) (ty := .int) (C := R_Md) (T := F_Md) (N := 34) hx hb hts (fun w h => List.mem_cons_of_mem _ (i_Md w h)) t_Md t_Md_ok n_Md hown hK.1 hP hD hS 0 (wMd_0 t a σ) rfl 0 (by decide) (hts (.fieldLink R_Md 93 "FlatBoxesModel" "code" "I") (List.mem_cons_of_mem _ (gIn k_666 (by decide +kernel)))) (fun _ h9 => h9) rfl (by decide +kernel) rfl rfl (Nat.le_of_ble_eq_true rfl) d_Md_box_40 (fun H locs hP hD hS => ?_)
        have hP : va_P D gCl (wMd t a (gSt σ 0 0 0)) H := hP
        have hD : va_D A (wMd t a (gSt σ 0 0 0)) := hD
        refine lv_aload_n hx hb d_Md_box_43 rfl (lv_at hl 0 rfl) ?_
        refine va_get (D := D) (ci := 7) (v := .int ((gSt σ 0 0 0) 0 0)) (C := R_Md) (T := F_Md) (N := 34) hx hb hts (fun w h => List.mem_cons_of_mem _ (i_Md w h)) hown hK.1 hP 0 (wMd_0 t a (gSt σ 0 0 0)) rfl 0 (by decide) (hts (.fieldLink R_Md 93 "FlatBoxesModel" "code" "I") (List.mem_cons_of_mem _ (gIn k_666 (by decide +kernel)))) (fun _ h9 => h9) rfl d_Md_box_44 ?_
        refine lv_topi (fun v_20 e_20 => ?_)
        obtain rfl : 0 = v_20 := (e_20.trans (rfl)).symm
        refine lv_if_le (tgt := 52) hx hb d_Md_box_47 (by decide) (fun c_21 => ?_) (fun c_21 => ?_)
        · 
          have hcd : mBxC σ nbx bv wh = 0 := by simp [mBxC, c_12, c_15, c_19, c_21]
          have hS1 := hsh c_12
          have hn8 := hS1.2.1
          obtain ⟨b, hb9, rfl⟩ := mIn_nat (n := nbx) (by omega) c_15
          have hS2 := hS1.2.2.2.1 b hb9
          obtain ⟨hL1, hL8⟩ := hat c_12 b hb9
          refine lv_aload_n hx hb d_Md_box_52 rfl (lv_at hl 0 rfl) ?_
          refine lv_iload_n hx hb d_Md_box_53 rfl (lv_at hl 1 rfl) ?_
          refine g_vi (k := 1) (As := [.int (nI b)]) (rest := []) (own := R_Md) (C := R_Md) (index := 155) ⟨hx, hb, hml, hown, hts⟩ (c_Md_packBox l D t a (gSt σ 0 0 0) b np (sx b) (cx b) rho ord hN hN8 (by omega) (fun q hq => ⟨(hS1.1 q hq).1, by have := (hS1.1 q hq).2; have := hS1.2.1; omega⟩) hS2.1 hS2.2.1 hS2.2.2.1 hS2.2.2.2 hord) (gg_Md_155 _) (by decide +kernel) ⟨Nat.le_of_ble_eq_true rfl, Nat.le_of_ble_eq_true rfl⟩ rfl (va_recv hK.1 hP (ci := 7) (q0 := 0) rfl (wMd_0 t a (gSt σ 0 0 0))) hK hP hD hS hl.1 rfl (Nat.le_of_ble_eq_true rfl) ⟨Nat.zero_le _, Nat.zero_le _⟩ d_Md_box_54 (fun r_22 u_22 H locs q_22 hP hD hS => ?_)
          obtain ⟨rfl, hu_22⟩ := q_22
          rw [hu_22] at hP hD
          have hP : va_P D gCl (wMd t a (mBoxU (gSt σ 0 0 0) rho ord sx cx np b)) H := hP
          have hD : va_D A (wMd t a (mBoxU (gSt σ 0 0 0) rho ord sx cx np b)) := hD
          refine lv_istore_n (lv' := [(3, .int (nI (cx b))), (0, .ref (a 0)), (1, .int (nI b)), (2, .int wh)]) hx hb d_Md_box_57 rfl hl (by decide) rfl (fun ls hl => ?_)
          refine lv_iconst (v := 0) hx hb d_Md_box_58 (by decide) ?_
          refine lv_istore (lv' := [(4, .int 0), (3, .int (nI (cx b))), (0, .ref (a 0)), (1, .int (nI b)), (2, .int wh)]) hx hb d_Md_box_59 hl (by decide) rfl (fun ls hl => ?_)
          refine lv_iconst (v := 0) hx hb d_Md_box_61 (by decide) ?_
          refine lv_istore (lv' := [(5, .int 0), (4, .int 0), (3, .int (nI (cx b))), (0, .ref (a 0)), (1, .int (nI b)), (2, .int wh)]) hx hb d_Md_box_62 hl (by decide) rfl (fun ls hl => ?_)
          exact cut_64 (np + 1) b 0 0 _ _ _ (by omega) (by omega) (by omega) (rfl) (rfl) (hcd) (hL1) (hL8) ((congrFun (mBoxU_fix (gSt σ 0 0 0) rho ord sx cx np b (by omega) (by decide)) 0).trans hN) ((congrFun (mPk_fix _ _ _ _ (by omega) _) b).trans hS2.1) hP hD hS (lv_sub hl [3, 4, 5, 2, 1, 0] rfl)
        · 
          exact absurd c_21 (by decide)
      · 
        refine lv_iconst (v := 2) hx hb d_Md_box_35 (by decide) ?_
        refine lv_goto (tgt := 40) hx hb d_Md_box_36 (by decide) ?_
        refine va_put (D := D) (ci := 7) (v := .int 2) (ty := .int) (C := R_Md) (T := F_Md) (N := 34) hx hb hts (fun w h => List.mem_cons_of_mem _ (i_Md w h)) t_Md t_Md_ok n_Md hown hK.1 hP hD hS 0 (wMd_0 t a σ) rfl 0 (by decide) (hts (.fieldLink R_Md 93 "FlatBoxesModel" "code" "I") (List.mem_cons_of_mem _ (gIn k_666 (by decide +kernel)))) (fun _ h9 => h9) rfl (by decide +kernel) rfl rfl (Nat.le_of_ble_eq_true rfl) d_Md_box_40 (fun H locs hP hD hS => ?_)
        have hP : va_P D gCl (wMd t a (gSt σ 0 0 2)) H := hP
        have hD : va_D A (wMd t a (gSt σ 0 0 2)) := hD
        refine lv_aload_n hx hb d_Md_box_43 rfl (lv_at hl 0 rfl) ?_
        refine va_get (D := D) (ci := 7) (v := .int ((gSt σ 0 0 2) 0 0)) (C := R_Md) (T := F_Md) (N := 34) hx hb hts (fun w h => List.mem_cons_of_mem _ (i_Md w h)) hown hK.1 hP 0 (wMd_0 t a (gSt σ 0 0 2)) rfl 0 (by decide) (hts (.fieldLink R_Md 93 "FlatBoxesModel" "code" "I") (List.mem_cons_of_mem _ (gIn k_666 (by decide +kernel)))) (fun _ h9 => h9) rfl d_Md_box_44 ?_
        refine lv_topi (fun v_23 e_23 => ?_)
        obtain rfl : 2 = v_23 := (e_23.trans (rfl)).symm
        refine lv_if_le (tgt := 52) hx hb d_Md_box_47 (by decide) (fun c_24 => ?_) (fun c_24 => ?_)
        · 
          exact absurd c_24 (by decide)
        · 
          refine lv_iconst (v := 0) hx hb d_Md_box_50 (by decide) ?_
          exact W.iret (v := 0) hx hb hr (fun U hU hW => ⟨⟨0, gSt σ 0 0 2, rfl, by exact ⟨by simp [mBxR, mBxC, c_12, c_15, c_19, c_24], by simp [mBxU, mBxC, c_12, c_15, c_19, c_24]⟩, by rw [hU]; exact hP, hD⟩, hS.F hU⟩) hS.2.2 d_Md_box_51
  · 
    refine lv_iconst (v := 1) hx hb d_Md_box_8 (by decide) ?_
    refine lv_goto (tgt := 40) hx hb d_Md_box_9 (by decide) ?_
    refine va_put (D := D) (ci := 7) (v := .int 1) (ty := .int) (C := R_Md) (T := F_Md) (N := 34) hx hb hts (fun w h => List.mem_cons_of_mem _ (i_Md w h)) t_Md t_Md_ok n_Md hown hK.1 hP hD hS 0 (wMd_0 t a σ) rfl 0 (by decide) (hts (.fieldLink R_Md 93 "FlatBoxesModel" "code" "I") (List.mem_cons_of_mem _ (gIn k_666 (by decide +kernel)))) (fun _ h9 => h9) rfl (by decide +kernel) rfl rfl (Nat.le_of_ble_eq_true rfl) d_Md_box_40 (fun H locs hP hD hS => ?_)
    have hP : va_P D gCl (wMd t a (gSt σ 0 0 1)) H := hP
    have hD : va_D A (wMd t a (gSt σ 0 0 1)) := hD
    refine lv_aload_n hx hb d_Md_box_43 rfl (lv_at hl 0 rfl) ?_
    refine va_get (D := D) (ci := 7) (v := .int ((gSt σ 0 0 1) 0 0)) (C := R_Md) (T := F_Md) (N := 34) hx hb hts (fun w h => List.mem_cons_of_mem _ (i_Md w h)) hown hK.1 hP 0 (wMd_0 t a (gSt σ 0 0 1)) rfl 0 (by decide) (hts (.fieldLink R_Md 93 "FlatBoxesModel" "code" "I") (List.mem_cons_of_mem _ (gIn k_666 (by decide +kernel)))) (fun _ h9 => h9) rfl d_Md_box_44 ?_
    refine lv_topi (fun v_25 e_25 => ?_)
    obtain rfl : 1 = v_25 := (e_25.trans (rfl)).symm
    refine lv_if_le (tgt := 52) hx hb d_Md_box_47 (by decide) (fun c_26 => ?_) (fun c_26 => ?_)
    · 
      exact absurd c_26 (by decide)
    · 
      refine lv_iconst (v := 0) hx hb d_Md_box_50 (by decide) ?_
      exact W.iret (v := 0) hx hb hr (fun U hU hW => ⟨⟨0, gSt σ 0 0 1, rfl, by exact ⟨by simp [mBxR, mBxC, c_12, c_26], by simp [mBxU, mBxC, c_12, c_26]⟩, by rw [hU]; exact hP, hD⟩, hS.F hU⟩) hS.2.2 d_Md_box_51
end
section
def mRho (τ : Nat → Nat → Int32) (q : Nat) : Nat := (τ 27 q).toNatClampNeg
def mSx (τ : Nat → Nat → Int32) (b : Nat) : Nat := (τ 28 b).toNatClampNeg
def mCopy (τ : Nat → Nat → Int32) : Nat → (Nat → Nat → Int32)
  | 0 => τ
  | k + 1 => gSt (mCopy τ k) 26 k (mCopy τ k 27 k)
theorem mCopy_fix (τ : Nat → Nat → Int32) {i : Nat} (h : i ≠ 26) : ∀ k, mCopy τ k i = τ i
  | 0 => rfl
  | k + 1 => (gSt_ne _ _ _ _ h).trans (mCopy_fix τ h k)
def mZr (τ : Nat → Nat → Int32) : Nat → (Nat → Nat → Int32)
  | 0 => τ
  | k + 1 => gSt (mZr τ k) 27 k 0
def mAccB (lst sum nn bx : Int32) : Int32 := if sum < 0 then 0 else if lst < 0 then 1 else if sum < lst then 1 else if ¬ sum = lst then 0 else if bx ≤ nn then 0 else 1
def mTrySum (np : Nat) (τ : Nat → Nat → Int32) : Int32 := mCost (mSets τ (mRho τ) np).1 (mSx (mSets τ (mRho τ) np).1) (mSets τ (mRho τ) np).2 0 0
def mStep (np : Nat) (S : (Nat → Nat → Int32) × Int32) : (Nat → Nat → Int32) × Int32 := if mAccB S.2 (mTrySum np S.1) (nI (mSets S.1 (mRho S.1) np).2) ((mSets S.1 (mRho S.1) np).1 25 0) = 0 then ((mSets S.1 (mRho S.1) np).1, S.2) else (mCopy (gSt (mSets S.1 (mRho S.1) np).1 25 0 (nI (mSets S.1 (mRho S.1) np).2)) np, mTrySum np S.1)
def mIter (np : Nat) : Nat → (Nat → Nat → Int32) × Int32 → (Nat → Nat → Int32) × Int32
  | 0, S => S
  | n + 1, S => if (mNext (mStep np S).1 np np).2 = 0 then ((mNext (mStep np S).1 np np).1, (mStep np S).2) else mIter np n ((mNext (mStep np S).1 np np).1, (mStep np S).2)
def mPreI (np : Nat) (τ : Nat → Nat → Int32) : Prop := τ 8 0 = nI np ∧ (∀ q, q < np → τ 27 q = nI (mRho τ q) ∧ mRho τ q < 8) ∧ (mSets τ (mRho τ) np).2 ≤ 8 ∧ (∀ b, b < (mSets τ (mRho τ) np).2 → (mSets τ (mRho τ) np).1 28 b = nI (mSx (mSets τ (mRho τ) np).1 b) ∧ mSx (mSets τ (mRho τ) np).1 b < 256) ∧ (∀ b, b < (mSets τ (mRho τ) np).2 → (mSets τ (mRho τ) np).1 23 (mSx (mSets τ (mRho τ) np).1 b) < 0 ∨ ∃ c, c < 4 ∧ (mSets τ (mRho τ) np).1 23 (mSx (mSets τ (mRho τ) np).1 b) = nI c)
def mOK (np : Nat) : Nat → (Nat → Nat → Int32) × Int32 → Prop
  | 0, _ => False
  | n + 1, S => mPreI np S.1 ∧ (¬ (mNext (mStep np S).1 np np).2 = 0 → mOK np n ((mNext (mStep np S).1 np np).1, (mStep np S).2))
theorem mOK_pos {np k : Nat} {S : (Nat → Nat → Int32) × Int32} (h : mOK np k S) : ∃ j, k = j + 1 := by
  cases k with
  | zero => exact absurd h (by simp [mOK])
  | succ k => exact ⟨k, rfl⟩
theorem mNext01 (σ : Nat → Nat → Int32) (np : Nat) : ∀ d, (mNext σ np d).2 = 0 ∨ (mNext σ np d).2 = 1
  | 0 => Or.inl rfl
  | p + 1 => by
    unfold mNext
    split
    · exact Or.inl rfl
    · split
      · exact mNext01 σ np p
      · exact Or.inr rfl
theorem mIt_next {np k : Nat} {S S1 Z : (Nat → Nat → Int32) × Int32} (hs : mStep np S = S1) (hok : mOK np (k + 1) S) (hit : mIter np (k + 1) S = Z) :
    ((mNext S1.1 np np).2 = 0 ∧ ((mNext S1.1 np np).1, S1.2) = Z) ∨ ((mNext S1.1 np np).2 = 1 ∧ mOK np k ((mNext S1.1 np np).1, S1.2) ∧ mIter np k ((mNext S1.1 np np).1, S1.2) = Z) := by
  subst hs
  rcases mNext01 (mStep np S).1 np np with h | h
  · refine Or.inl ⟨h, ?_⟩
    rw [← hit]
    unfold mIter
    rw [if_pos h]
  · have hne : ¬ (mNext (mStep np S).1 np np).2 = 0 := by rw [h]; decide
    refine Or.inr ⟨h, hok.2 hne, ?_⟩
    rw [← hit]
    conv => rhs; unfold mIter
    rw [if_neg hne]
def mRun0 (σ : Nat → Nat → Int32) (ord : Nat → Nat) (nc np NN : Nat) : (Nat → Nat → Int32) × Int32 := (gSt (mZr (mFBs (gSt σ 0 0 0) ord nc np (NN - 1)) 8) 25 0 0, -1)
def mRunR (Z : (Nat → Nat → Int32) × Int32) : Int32 := if Z.2 < 0 then -1 else Z.1 25 0
def mRunU (Z : (Nat → Nat → Int32) × Int32) : Nat → Nat → Int32 := gSt Z.1 24 0 (if Z.2 < 0 then 0 else 1)

theorem gg_Md_151 (w0 : Cond) : GoodIn (w0 :: gBig) (wsV R_Md 151 R_Md y_Md_next (.code y_Md_next b_Md_next 4 (some .boolean) :: gBig)) := gGoodV (gIn k_833 (by decide +kernel)) (gIn k_835 (by decide +kernel)) (gInP (List.mem_of_getElem? (i := 24) (by decide +kernel)) (by decide +kernel)) (gIn k_9 (by decide +kernel)) (gIn k_836 (by decide +kernel))
theorem gg_Md_138 (w0 : Cond) : GoodIn (w0 :: gBig) (wsV R_Md 138 R_Md y_Md_findBoxes (.code y_Md_findBoxes b_Md_findBoxes 4 none :: gBig)) := gGoodV (gIn k_821 (by decide +kernel)) (gIn k_823 (by decide +kernel)) (gInP (List.mem_of_getElem? (i := 21) (by decide +kernel)) (by decide +kernel)) (gIn k_9 (by decide +kernel)) (gIn k_824 (by decide +kernel))
set_option maxHeartbeats 4000000 in
set_option maxRecDepth 100000 in
theorem c_Md_run (l : Launch) (D : va_G) (t : Nat → ClassId) (a : Nat → Nat) (σ : Nat → Nat → Int32) (nc np NN NI : Nat) (ord : Nat → Nat) (hC : σ 2 0 = nI nc) (hC4 : nc ≤ 4) (hN : σ 8 0 = nI np) (hN8 : np ≤ 8) (hNN : (1 : Int32) <<< (nI np &&& 31) = nI NN) (hN1 : 1 ≤ NN) (hN2 : NN ≤ 256) (hord : ∀ k, k < np → ord k < np ∧ mBT (σ 11) np (nI k) np 0 = nI (ord k)) (hOK : mOK np NI (mRun0 σ ord nc np NN)) : gMi l D t y_Md_run b_Md_run 6 (some .int) 3 [.ref (a 0)] (wMd t a σ) (wMd t a) (fun r u => r = mRunR (mIter np NI (mRun0 σ ord nc np NN)) ∧ u = mRunU (mIter np NI (mRun0 σ ord nc np NN))) := by
  intro A
  refine Met.ofW (cc := b_Md_run) (maxL := 6) (ret := (some .int)) (by decide) rfl ?_
  intro p e s m args below meth c s₁ B hml hv
  obtain ⟨rfl, hK, hP, hD⟩ := hv
  have hx := B.exec
  have hb := B.bytes
  have hr := B.returns
  have hts := atoms_spec (ws := .code y_Md_run b_Md_run 6 (some .int) :: gBig) B.pre
  have hown : s.vm.findClass R_Md = some m.cls := findClass_of_methodNamed B.named
  have hlocks := B.notSynchronized
  have hS : va_S A s.heap s.heap [] := va_S.rf
  have hl := lv_entry ([.ref (a 0)]) (n := 6) (Nat.le_of_ble_eq_true rfl)
  rw [lg_entry_eq]
  generalize (lg_sl ([.ref (a 0)]) ++ List.replicate (6 - (lg_sl ([.ref (a 0)])).length) Slot.unset).toArray = ls at hl ⊢
  have hl : lv_has ls 6 [(0, .ref (a 0))] := hl
  show gGo l p e s m below meth c D t A 3 [.ref (a 0)] (wMd t a) (fun r u => r = mRunR (mIter np NI (mRun0 σ ord nc np NN)) ∧ u = mRunU (mIter np NI (mRun0 σ ord nc np NN))) s.heap [] (F0 m 0 ls [])
  have cut_99 : ∀ (n : Nat) (k : Nat) (lv : Int32) (τ0 : Nat → Nat → Int32) (τ : Nat → Nat → Int32) (H : Heap) (locs : List Loc) (ls : Array Slot), (k ≤ np) → (np + 1 ≤ k + n) → (mCopy τ0 k = τ) → (τ 8 0 = nI np) → (∀ (H : Heap) (locs : List Loc) (ls : Array Slot), va_P D gCl (wMd t a (mCopy τ0 np)) H → va_D A (wMd t a (mCopy τ0 np)) → va_S A s.heap H locs → lv_has ls 6 [(0, .ref (a 0)), (1, .int lv)] → gGo l p e s m below meth c D t A 3 [.ref (a 0)] (wMd t a) (fun r u => r = mRunR (mIter np NI (mRun0 σ ord nc np NN)) ∧ u = mRunU (mIter np NI (mRun0 σ ord nc np NN))) H locs (F0 m 128 ls [])) → va_P D gCl (wMd t a τ) H → va_D A (wMd t a τ) → va_S A s.heap H locs → lv_has ls 6 [(0, .ref (a 0)), (1, .int lv), (5, .int (nI k))] → gGo l p e s m below meth c D t A 3 [.ref (a 0)] (wMd t a) (fun r u => r = mRunR (mIter np NI (mRun0 σ ord nc np NN)) ∧ u = mRunU (mIter np NI (mRun0 σ ord nc np NN))) H locs (F0 m 99 ls []) := by
    intro n
    induction n with
    | zero =>
      intro k lv τ0 τ H locs ls hk hf hs h8 hX hP hD hS hl
      exact absurd hf (by omega)
    | succ n ih =>
      intro k lv τ0 τ H locs ls hk hf hs h8 hX hP hD hS hl
      refine lv_iload hx hb d_Md_run_99 (lv_at hl 2 rfl) ?_
      refine lv_aload_n hx hb d_Md_run_101 rfl (lv_at hl 0 rfl) ?_
      refine va_get (D := D) (ci := 7) (v := .int (τ 8 0)) (C := R_Md) (T := F_Md) (N := 34) hx hb hts (fun w h => List.mem_cons_of_mem _ (i_Md w h)) hown hK.1 hP 0 (wMd_0 t a τ) rfl 8 (by decide) (hts (.fieldLink R_Md 113 "FlatBoxesModel" "parts" "I") (List.mem_cons_of_mem _ (gIn k_674 (by decide +kernel)))) (fun _ h9 => h9) rfl d_Md_run_102 ?_
      refine lv_topi (fun v_1 e_1 => ?_)
      obtain rfl : nI np = v_1 := (e_1.trans h8).symm
      refine lv_icmp_ge (tgt := 128) hx hb d_Md_run_105 (by decide) (fun c_2 => ?_) (fun c_2 => ?_)
      · 
        have h_2 : np ≤ k := (nI_leI (a := np) (b := k) (by omega) (by omega)).mp c_2
        obtain rfl : k = np := by omega
        subst hs
        exact hX _ _ _  hP hD hS (lv_sub hl [0, 1] rfl)
      · 
        have h_2 : ¬ np ≤ k := fun q9 => c_2 ((nI_leI (a := np) (b := k) (by omega) (by omega)).mpr q9)
        refine lv_aload_n hx hb d_Md_run_108 rfl (lv_at hl 0 rfl) ?_
        refine va_get (D := D) (ci := 7) (v := .ref (a 26)) (C := R_Md) (T := F_Md) (N := 34) hx hb hts (fun w h => List.mem_cons_of_mem _ (i_Md w h)) hown hK.1 hP 0 (wMd_0 t a τ) rfl 26 (by decide) (hts (.fieldLink R_Md 68 "FlatBoxesModel" "shares" "[I") (List.mem_cons_of_mem _ (gIn k_692 (by decide +kernel)))) (fun _ h9 => h9) rfl d_Md_run_109 ?_
        refine lv_iload hx hb d_Md_run_112 (lv_at hl 2 rfl) ?_
        refine lv_aload_n hx hb d_Md_run_114 rfl (lv_at hl 0 rfl) ?_
        refine va_get (D := D) (ci := 7) (v := .ref (a 27)) (C := R_Md) (T := F_Md) (N := 34) hx hb hts (fun w h => List.mem_cons_of_mem _ (i_Md w h)) hown hK.1 hP 0 (wMd_0 t a τ) rfl 27 (by decide) (hts (.fieldLink R_Md 71 "FlatBoxesModel" "trial" "[I") (List.mem_cons_of_mem _ (gIn k_693 (by decide +kernel)))) (fun _ h9 => h9) rfl d_Md_run_115 ?_
        refine lv_iload hx hb d_Md_run_118 (lv_at hl 2 rfl) ?_
        refine g_iald hx hb hK.1 hP 21 0 (wMd_27 t a τ) rfl k (rfl) (by omega) (by decide) d_Md_run_120 ?_
        refine g_iast hx hb hK.1 hP hD hS 20 0 (wMd_26 t a τ) rfl k (rfl) (by omega) (by decide) (w' := wMd t a (gSt τ 26 k (τ 27 k))) (sMd_26 t a τ k (τ 27 k)) d_Md_run_121 (fun H locs hP hD hS => ?_)
        refine lv_iinc (v := nI (k + 1)) (lv' := [(5, .int (nI (k + 1))), (0, .ref (a 0)), (1, .int lv)]) hx hb d_Md_run_122 hl (k := 2) rfl (nI_1 k) (by decide) rfl (fun ls hl => ?_)
        refine lv_goto (tgt := 99) hx hb d_Md_run_125 (by decide) ?_
        exact ih (k + 1) lv τ0 (gSt τ 26 k (τ 27 k)) _ _ _ (by omega) (by omega) (by rw [← hs]; rfl) (h8) hX hP hD hS (lv_sub hl [1, 2, 0] rfl)
  have cut_39 : ∀ (n : Nat) (k : Nat) (lst : Int32) (mr : Int32) (τ : Nat → Nat → Int32) (H : Heap) (locs : List Loc) (ls : Array Slot), (k + 1 ≤ n) → ((mr = 0 ∧ (τ, lst) = mIter np NI (mRun0 σ ord nc np NN)) ∨ (mr = 1 ∧ mOK np k (τ, lst) ∧ mIter np k (τ, lst) = mIter np NI (mRun0 σ ord nc np NN))) → va_P D gCl (wMd t a τ) H → va_D A (wMd t a τ) → va_S A s.heap H locs → lv_has ls 6 [(0, .ref (a 0)), (1, .int lst), (2, .int mr)] → gGo l p e s m below meth c D t A 3 [.ref (a 0)] (wMd t a) (fun r u => r = mRunR (mIter np NI (mRun0 σ ord nc np NN)) ∧ u = mRunU (mIter np NI (mRun0 σ ord nc np NN))) H locs (F0 m 39 ls []) := by
    intro n
    induction n with
    | zero =>
      intro k lst mr τ H locs ls hf hst hP hD hS hl
      exact absurd hf (by omega)
    | succ n ih =>
      intro k lst mr τ H locs ls hf hst hP hD hS hl
      refine lv_iload_n hx hb d_Md_run_39 rfl (lv_at hl 2 rfl) ?_
      refine lv_if_eq (tgt := 136) hx hb d_Md_run_40 (by decide) (fun c_3 => ?_) (fun c_3 => ?_)
      · 
        have hfin : (τ, lst) = mIter np NI (mRun0 σ ord nc np NN) := hst.elim (fun h => h.2) (fun h => absurd (c_3.symm.trans h.1) (by decide))
        refine lv_aload_n hx hb d_Md_run_136 rfl (lv_at hl 0 rfl) ?_
        refine lv_iload_n hx hb d_Md_run_137 rfl (lv_at hl 1 rfl) ?_
        refine lv_if_lt (tgt := 145) hx hb d_Md_run_138 (by decide) (fun c_4 => ?_) (fun c_4 => ?_)
        · 
          refine lv_iconst (v := 0) hx hb d_Md_run_145 (by decide) ?_
          refine va_put (D := D) (ci := 7) (v := .int 0) (ty := .boolean) (C := R_Md) (T := F_Md) (N := 34) hx hb hts (fun w h => List.mem_cons_of_mem _ (i_Md w h)) t_Md t_Md_ok n_Md hown hK.1 hP hD hS 0 (wMd_0 t a τ) rfl 24 (by decide) (hts (.fieldLink R_Md 108 "FlatBoxesModel" "hasShares" "Z") (List.mem_cons_of_mem _ (gIn k_690 (by decide +kernel)))) (fun _ h9 => h9) rfl (by decide +kernel) rfl rfl (Nat.le_of_ble_eq_true rfl) d_Md_run_146 (fun H locs hP hD hS => ?_)
          have hP : va_P D gCl (wMd t a (gSt τ 24 0 0)) H := hP
          have hD : va_D A (wMd t a (gSt τ 24 0 0)) := hD
          refine lv_aload_n hx hb d_Md_run_149 rfl (lv_at hl 0 rfl) ?_
          refine va_get (D := D) (ci := 7) (v := .int ((gSt τ 24 0 0) 24 0)) (C := R_Md) (T := F_Md) (N := 34) hx hb hts (fun w h => List.mem_cons_of_mem _ (i_Md w h)) hown hK.1 hP 0 (wMd_0 t a (gSt τ 24 0 0)) rfl 24 (by decide) (hts (.fieldLink R_Md 108 "FlatBoxesModel" "hasShares" "Z") (List.mem_cons_of_mem _ (gIn k_690 (by decide +kernel)))) (fun _ h9 => h9) rfl d_Md_run_150 ?_
          refine lv_topi (fun v_5 e_5 => ?_)
          obtain rfl : 0 = v_5 := (e_5.trans (rfl)).symm
          refine lv_if_eq (tgt := 163) hx hb d_Md_run_153 (by decide) (fun c_6 => ?_) (fun c_6 => ?_)
          · 
            refine lv_iconst (v := -1) hx hb d_Md_run_163 (by decide) ?_
            exact W.iret (v := -1) hx hb hr (fun U hU hW => ⟨⟨-1, gSt τ 24 0 0, rfl, by exact ⟨by rw [← hfin]; simp [mRunR, c_3, c_4, c_6], by rw [← hfin]; simp [mRunU, c_3, c_4, c_6]⟩, by rw [hU]; exact hP, hD⟩, hS.F hU⟩) hS.2.2 d_Md_run_164
          · 
            exact absurd c_6 (by decide)
        · 
          refine lv_iconst (v := 1) hx hb d_Md_run_141 (by decide) ?_
          refine lv_goto (tgt := 146) hx hb d_Md_run_142 (by decide) ?_
          refine va_put (D := D) (ci := 7) (v := .int 1) (ty := .boolean) (C := R_Md) (T := F_Md) (N := 34) hx hb hts (fun w h => List.mem_cons_of_mem _ (i_Md w h)) t_Md t_Md_ok n_Md hown hK.1 hP hD hS 0 (wMd_0 t a τ) rfl 24 (by decide) (hts (.fieldLink R_Md 108 "FlatBoxesModel" "hasShares" "Z") (List.mem_cons_of_mem _ (gIn k_690 (by decide +kernel)))) (fun _ h9 => h9) rfl (by decide +kernel) rfl rfl (Nat.le_of_ble_eq_true rfl) d_Md_run_146 (fun H locs hP hD hS => ?_)
          have hP : va_P D gCl (wMd t a (gSt τ 24 0 1)) H := hP
          have hD : va_D A (wMd t a (gSt τ 24 0 1)) := hD
          refine lv_aload_n hx hb d_Md_run_149 rfl (lv_at hl 0 rfl) ?_
          refine va_get (D := D) (ci := 7) (v := .int ((gSt τ 24 0 1) 24 0)) (C := R_Md) (T := F_Md) (N := 34) hx hb hts (fun w h => List.mem_cons_of_mem _ (i_Md w h)) hown hK.1 hP 0 (wMd_0 t a (gSt τ 24 0 1)) rfl 24 (by decide) (hts (.fieldLink R_Md 108 "FlatBoxesModel" "hasShares" "Z") (List.mem_cons_of_mem _ (gIn k_690 (by decide +kernel)))) (fun _ h9 => h9) rfl d_Md_run_150 ?_
          refine lv_topi (fun v_7 e_7 => ?_)
          obtain rfl : 1 = v_7 := (e_7.trans (rfl)).symm
          refine lv_if_eq (tgt := 163) hx hb d_Md_run_153 (by decide) (fun c_8 => ?_) (fun c_8 => ?_)
          · 
            exact absurd c_8 (by decide)
          · 
            refine lv_aload_n hx hb d_Md_run_156 rfl (lv_at hl 0 rfl) ?_
            refine va_get (D := D) (ci := 7) (v := .int ((gSt τ 24 0 1) 25 0)) (C := R_Md) (T := F_Md) (N := 34) hx hb hts (fun w h => List.mem_cons_of_mem _ (i_Md w h)) hown hK.1 hP 0 (wMd_0 t a (gSt τ 24 0 1)) rfl 25 (by decide) (hts (.fieldLink R_Md 141 "FlatBoxesModel" "boxes" "I") (List.mem_cons_of_mem _ (gIn k_691 (by decide +kernel)))) (fun _ h9 => h9) rfl d_Md_run_157 ?_
            refine lv_topi (fun v_9 e_9 => ?_)
            obtain rfl : τ 25 0 = v_9 := (e_9.trans (rfl)).symm
            refine lv_goto (tgt := 164) hx hb d_Md_run_160 (by decide) ?_
            exact W.iret (v := τ 25 0) hx hb hr (fun U hU hW => ⟨⟨τ 25 0, gSt τ 24 0 1, rfl, by exact ⟨by rw [← hfin]; simp [mRunR, c_3, c_4, c_8], by rw [← hfin]; simp [mRunU, c_3, c_4, c_8]⟩, by rw [hU]; exact hP, hD⟩, hS.F hU⟩) hS.2.2 d_Md_run_164
      · 
        have hst1 := hst.resolve_left (fun h => c_3 h.1)
        obtain ⟨k, rfl⟩ : ∃ k9, k = k9 + 1 := mOK_pos hst1.2.1
        obtain ⟨h8, hrow, hnn8, hsx, hbx⟩ := hst1.2.1.1
        refine lv_aload_n hx hb d_Md_run_43 rfl (lv_at hl 0 rfl) ?_
        refine lv_aload_n hx hb d_Md_run_44 rfl (lv_at hl 0 rfl) ?_
        refine va_get (D := D) (ci := 7) (v := .ref (a 27)) (C := R_Md) (T := F_Md) (N := 34) hx hb hts (fun w h => List.mem_cons_of_mem _ (i_Md w h)) hown hK.1 hP 0 (wMd_0 t a τ) rfl 27 (by decide) (hts (.fieldLink R_Md 71 "FlatBoxesModel" "trial" "[I") (List.mem_cons_of_mem _ (gIn k_693 (by decide +kernel)))) (fun _ h9 => h9) rfl d_Md_run_45 ?_
        refine g_vi (k := 1) (As := [.ref (a 27)]) (rest := []) (own := R_Md) (C := R_Md) (index := 144) ⟨hx, hb, hml, hown, hts⟩ (c_Md_setsOf_t l D t a τ np (mRho τ) h8 hN8 hrow) (gg_Md_144 _) (by decide +kernel) ⟨Nat.le_of_ble_eq_true rfl, Nat.le_of_ble_eq_true rfl⟩ rfl (va_recv hK.1 hP (ci := 7) (q0 := 0) rfl (wMd_0 t a τ)) hK hP hD hS hl.1 rfl (Nat.le_of_ble_eq_true rfl) ⟨Nat.zero_le _, Nat.zero_le _⟩ d_Md_run_48 (fun r_10 u_10 H locs q_10 hP hD hS => ?_)
        obtain ⟨rfl, hu_10⟩ := q_10
        rw [hu_10] at hP hD
        refine lv_istore_n (lv' := [(3, .int (nI (mSets τ (mRho τ) np).2)), (0, .ref (a 0)), (1, .int lst), (2, .int mr)]) hx hb d_Md_run_51 rfl hl (by decide) rfl (fun ls hl => ?_)
        refine lv_aload_n hx hb d_Md_run_52 rfl (lv_at hl 1 rfl) ?_
        refine lv_iload_n hx hb d_Md_run_53 rfl (lv_at hl 0 rfl) ?_
        refine g_vi (k := 1) (As := [.int (nI (mSets τ (mRho τ) np).2)]) (rest := []) (own := R_Md) (C := R_Md) (index := 148) ⟨hx, hb, hml, hown, hts⟩ (c_Md_costOf l D t a (mSets τ (mRho τ) np).1 (mSets τ (mRho τ) np).2 hnn8 (mSx (mSets τ (mRho τ) np).1) hsx hbx) (gg_Md_148 _) (by decide +kernel) ⟨Nat.le_of_ble_eq_true rfl, Nat.le_of_ble_eq_true rfl⟩ rfl (va_recv hK.1 hP (ci := 7) (q0 := 0) rfl (wMd_0 t a ((mSets τ (mRho τ) np).1))) hK hP hD hS hl.1 rfl (Nat.le_of_ble_eq_true rfl) ⟨Nat.zero_le _, Nat.zero_le _⟩ d_Md_run_54 (fun r_11 u_11 H locs q_11 hP hD hS => ?_)
        obtain ⟨hr_11, hu_11⟩ := q_11
        rw [hu_11] at hP hD
        obtain rfl : mTrySum np τ = r_11 := hr_11.symm
        refine lv_istore (lv' := [(4, .int (mTrySum np τ)), (3, .int (nI (mSets τ (mRho τ) np).2)), (0, .ref (a 0)), (1, .int lst), (2, .int mr)]) hx hb d_Md_run_57 hl (by decide) rfl (fun ls hl => ?_)
        refine lv_iload hx hb d_Md_run_59 (lv_at hl 0 rfl) ?_
        refine lv_if_lt (tgt := 128) hx hb d_Md_run_61 (by decide) (fun c_12 => ?_) (fun c_12 => ?_)
        · 
          have hstep : mStep np (τ, lst) = ((mSets τ (mRho τ) np).1, lst) := by simp [mStep, mAccB, c_3, c_12]
          have h8b : ((mSets τ (mRho τ) np).1) 8 0 = nI np := (congrFun (mSets_fix τ (mRho τ) (by decide) np) 0).trans h8
          refine lv_aload_n hx hb d_Md_run_128 rfl (lv_at hl 2 rfl) ?_
          refine g_vi (k := 0) (As := []) (rest := []) (own := R_Md) (C := R_Md) (index := 151) ⟨hx, hb, hml, hown, hts⟩ (c_Md_next l D t a ((mSets τ (mRho τ) np).1) np h8b hN8) (gg_Md_151 _) (by decide +kernel) ⟨Nat.le_of_ble_eq_true rfl, Nat.le_of_ble_eq_true rfl⟩ rfl (va_recv hK.1 hP (ci := 7) (q0 := 0) rfl (wMd_0 t a ((mSets τ (mRho τ) np).1))) hK hP hD hS hl.1 rfl (Nat.le_of_ble_eq_true rfl) ⟨Nat.zero_le _, Nat.zero_le _⟩ d_Md_run_129 (fun r_13 u_13 H locs q_13 hP hD hS => ?_)
          obtain ⟨rfl, hu_13⟩ := q_13
          rw [hu_13] at hP hD
          refine lv_istore_n (lv' := [(2, .int ((mNext ((mSets τ (mRho τ) np).1) np np).2)), (4, .int (mTrySum np τ)), (3, .int (nI (mSets τ (mRho τ) np).2)), (0, .ref (a 0)), (1, .int lst)]) hx hb d_Md_run_132 rfl hl (by decide) rfl (fun ls hl => ?_)
          refine lv_goto (tgt := 39) hx hb d_Md_run_133 (by decide) ?_
          exact ih k lst ((mNext ((mSets τ (mRho τ) np).1) np np).2) ((mNext ((mSets τ (mRho τ) np).1) np np).1) _ _ _ (by omega) (mIt_next hstep hst1.2.1 hst1.2.2) hP hD hS (lv_sub hl [3, 4, 0] rfl)
        · 
          refine lv_iload_n hx hb d_Md_run_64 rfl (lv_at hl 3 rfl) ?_
          refine lv_if_lt (tgt := 88) hx hb d_Md_run_65 (by decide) (fun c_14 => ?_) (fun c_14 => ?_)
          · 
            refine lv_iload hx hb d_Md_run_88 (lv_at hl 0 rfl) ?_
            refine lv_istore_n (lv' := [(1, .int (mTrySum np τ)), (4, .int (mTrySum np τ)), (3, .int (nI (mSets τ (mRho τ) np).2)), (0, .ref (a 0)), (2, .int mr)]) hx hb d_Md_run_90 rfl hl (by decide) rfl (fun ls hl => ?_)
            refine lv_aload_n hx hb d_Md_run_91 rfl (lv_at hl 3 rfl) ?_
            refine lv_iload_n hx hb d_Md_run_92 rfl (lv_at hl 2 rfl) ?_
            refine va_put (D := D) (ci := 7) (v := .int (nI (mSets τ (mRho τ) np).2)) (ty := .int) (C := R_Md) (T := F_Md) (N := 34) hx hb hts (fun w h => List.mem_cons_of_mem _ (i_Md w h)) t_Md t_Md_ok n_Md hown hK.1 hP hD hS 0 (wMd_0 t a ((mSets τ (mRho τ) np).1)) rfl 25 (by decide) (hts (.fieldLink R_Md 141 "FlatBoxesModel" "boxes" "I") (List.mem_cons_of_mem _ (gIn k_691 (by decide +kernel)))) (fun _ h9 => h9) rfl (by decide +kernel) rfl rfl (Nat.le_of_ble_eq_true rfl) d_Md_run_93 (fun H locs hP hD hS => ?_)
            have hP : va_P D gCl (wMd t a (gSt ((mSets τ (mRho τ) np).1) 25 0 (nI (mSets τ (mRho τ) np).2))) H := hP
            have hD : va_D A (wMd t a (gSt ((mSets τ (mRho τ) np).1) 25 0 (nI (mSets τ (mRho τ) np).2))) := hD
            refine lv_iconst (v := 0) hx hb d_Md_run_96 (by decide) ?_
            refine lv_istore (lv' := [(5, .int 0), (1, .int (mTrySum np τ)), (4, .int (mTrySum np τ)), (3, .int (nI (mSets τ (mRho τ) np).2)), (0, .ref (a 0)), (2, .int mr)]) hx hb d_Md_run_97 hl (by decide) rfl (fun ls hl => ?_)
            refine cut_99 (np + 1) 0 (mTrySum np τ) (gSt ((mSets τ (mRho τ) np).1) 25 0 (nI (mSets τ (mRho τ) np).2)) (gSt ((mSets τ (mRho τ) np).1) 25 0 (nI (mSets τ (mRho τ) np).2)) _ _ _ (by omega) (by omega) (rfl) ((congrFun (mSets_fix τ (mRho τ) (by decide) np) 0).trans h8) (fun H locs ls  hP hD hS hl => ?_) hP hD hS (lv_sub hl [4, 1, 0] rfl)
            have hstep : mStep np (τ, lst) = (mCopy (gSt ((mSets τ (mRho τ) np).1) 25 0 (nI (mSets τ (mRho τ) np).2)) np, mTrySum np τ) := by simp [mStep, mAccB, c_3, c_12, c_14]
            have h8b : (mCopy (gSt ((mSets τ (mRho τ) np).1) 25 0 (nI (mSets τ (mRho τ) np).2)) np) 8 0 = nI np := (congrFun (mCopy_fix _ (by decide) np) 0).trans ((congrFun (mSets_fix τ (mRho τ) (by decide) np) 0).trans h8)
            refine lv_aload_n hx hb d_Md_run_128 rfl (lv_at hl 0 rfl) ?_
            refine g_vi (k := 0) (As := []) (rest := []) (own := R_Md) (C := R_Md) (index := 151) ⟨hx, hb, hml, hown, hts⟩ (c_Md_next l D t a (mCopy (gSt ((mSets τ (mRho τ) np).1) 25 0 (nI (mSets τ (mRho τ) np).2)) np) np h8b hN8) (gg_Md_151 _) (by decide +kernel) ⟨Nat.le_of_ble_eq_true rfl, Nat.le_of_ble_eq_true rfl⟩ rfl (va_recv hK.1 hP (ci := 7) (q0 := 0) rfl (wMd_0 t a (mCopy (gSt ((mSets τ (mRho τ) np).1) 25 0 (nI (mSets τ (mRho τ) np).2)) np))) hK hP hD hS hl.1 rfl (Nat.le_of_ble_eq_true rfl) ⟨Nat.zero_le _, Nat.zero_le _⟩ d_Md_run_129 (fun r_15 u_15 H locs q_15 hP hD hS => ?_)
            obtain ⟨rfl, hu_15⟩ := q_15
            rw [hu_15] at hP hD
            refine lv_istore_n (lv' := [(2, .int ((mNext (mCopy (gSt ((mSets τ (mRho τ) np).1) 25 0 (nI (mSets τ (mRho τ) np).2)) np) np np).2)), (0, .ref (a 0)), (1, .int (mTrySum np τ))]) hx hb d_Md_run_132 rfl hl (by decide) rfl (fun ls hl => ?_)
            refine lv_goto (tgt := 39) hx hb d_Md_run_133 (by decide) ?_
            exact ih k (mTrySum np τ) ((mNext (mCopy (gSt ((mSets τ (mRho τ) np).1) 25 0 (nI (mSets τ (mRho τ) np).2)) np) np np).2) ((mNext (mCopy (gSt ((mSets τ (mRho τ) np).1) 25 0 (nI (mSets τ (mRho τ) np).2)) np) np np).1) _ _ _ (by omega) (mIt_next hstep hst1.2.1 hst1.2.2) hP hD hS (lv_sub hl [1, 2, 0] rfl)
          · 
            refine lv_iload hx hb d_Md_run_68 (lv_at hl 0 rfl) ?_
            refine lv_iload_n hx hb d_Md_run_70 rfl (lv_at hl 3 rfl) ?_
            refine lv_icmp_lt (tgt := 88) hx hb d_Md_run_71 (by decide) (fun c_16 => ?_) (fun c_16 => ?_)
            · 
              refine lv_iload hx hb d_Md_run_88 (lv_at hl 0 rfl) ?_
              refine lv_istore_n (lv' := [(1, .int (mTrySum np τ)), (4, .int (mTrySum np τ)), (3, .int (nI (mSets τ (mRho τ) np).2)), (0, .ref (a 0)), (2, .int mr)]) hx hb d_Md_run_90 rfl hl (by decide) rfl (fun ls hl => ?_)
              refine lv_aload_n hx hb d_Md_run_91 rfl (lv_at hl 3 rfl) ?_
              refine lv_iload_n hx hb d_Md_run_92 rfl (lv_at hl 2 rfl) ?_
              refine va_put (D := D) (ci := 7) (v := .int (nI (mSets τ (mRho τ) np).2)) (ty := .int) (C := R_Md) (T := F_Md) (N := 34) hx hb hts (fun w h => List.mem_cons_of_mem _ (i_Md w h)) t_Md t_Md_ok n_Md hown hK.1 hP hD hS 0 (wMd_0 t a ((mSets τ (mRho τ) np).1)) rfl 25 (by decide) (hts (.fieldLink R_Md 141 "FlatBoxesModel" "boxes" "I") (List.mem_cons_of_mem _ (gIn k_691 (by decide +kernel)))) (fun _ h9 => h9) rfl (by decide +kernel) rfl rfl (Nat.le_of_ble_eq_true rfl) d_Md_run_93 (fun H locs hP hD hS => ?_)
              have hP : va_P D gCl (wMd t a (gSt ((mSets τ (mRho τ) np).1) 25 0 (nI (mSets τ (mRho τ) np).2))) H := hP
              have hD : va_D A (wMd t a (gSt ((mSets τ (mRho τ) np).1) 25 0 (nI (mSets τ (mRho τ) np).2))) := hD
              refine lv_iconst (v := 0) hx hb d_Md_run_96 (by decide) ?_
              refine lv_istore (lv' := [(5, .int 0), (1, .int (mTrySum np τ)), (4, .int (mTrySum np τ)), (3, .int (nI (mSets τ (mRho τ) np).2)), (0, .ref (a 0)), (2, .int mr)]) hx hb d_Md_run_97 hl (by decide) rfl (fun ls hl => ?_)
              refine cut_99 (np + 1) 0 (mTrySum np τ) (gSt ((mSets τ (mRho τ) np).1) 25 0 (nI (mSets τ (mRho τ) np).2)) (gSt ((mSets τ (mRho τ) np).1) 25 0 (nI (mSets τ (mRho τ) np).2)) _ _ _ (by omega) (by omega) (rfl) ((congrFun (mSets_fix τ (mRho τ) (by decide) np) 0).trans h8) (fun H locs ls  hP hD hS hl => ?_) hP hD hS (lv_sub hl [4, 1, 0] rfl)
              have hstep : mStep np (τ, lst) = (mCopy (gSt ((mSets τ (mRho τ) np).1) 25 0 (nI (mSets τ (mRho τ) np).2)) np, mTrySum np τ) := by simp [mStep, mAccB, c_3, c_12, c_14, c_16]
              have h8b : (mCopy (gSt ((mSets τ (mRho τ) np).1) 25 0 (nI (mSets τ (mRho τ) np).2)) np) 8 0 = nI np := (congrFun (mCopy_fix _ (by decide) np) 0).trans ((congrFun (mSets_fix τ (mRho τ) (by decide) np) 0).trans h8)
              refine lv_aload_n hx hb d_Md_run_128 rfl (lv_at hl 0 rfl) ?_
              refine g_vi (k := 0) (As := []) (rest := []) (own := R_Md) (C := R_Md) (index := 151) ⟨hx, hb, hml, hown, hts⟩ (c_Md_next l D t a (mCopy (gSt ((mSets τ (mRho τ) np).1) 25 0 (nI (mSets τ (mRho τ) np).2)) np) np h8b hN8) (gg_Md_151 _) (by decide +kernel) ⟨Nat.le_of_ble_eq_true rfl, Nat.le_of_ble_eq_true rfl⟩ rfl (va_recv hK.1 hP (ci := 7) (q0 := 0) rfl (wMd_0 t a (mCopy (gSt ((mSets τ (mRho τ) np).1) 25 0 (nI (mSets τ (mRho τ) np).2)) np))) hK hP hD hS hl.1 rfl (Nat.le_of_ble_eq_true rfl) ⟨Nat.zero_le _, Nat.zero_le _⟩ d_Md_run_129 (fun r_17 u_17 H locs q_17 hP hD hS => ?_)
              obtain ⟨rfl, hu_17⟩ := q_17
              rw [hu_17] at hP hD
              refine lv_istore_n (lv' := [(2, .int ((mNext (mCopy (gSt ((mSets τ (mRho τ) np).1) 25 0 (nI (mSets τ (mRho τ) np).2)) np) np np).2)), (0, .ref (a 0)), (1, .int (mTrySum np τ))]) hx hb d_Md_run_132 rfl hl (by decide) rfl (fun ls hl => ?_)
              refine lv_goto (tgt := 39) hx hb d_Md_run_133 (by decide) ?_
              exact ih k (mTrySum np τ) ((mNext (mCopy (gSt ((mSets τ (mRho τ) np).1) 25 0 (nI (mSets τ (mRho τ) np).2)) np) np np).2) ((mNext (mCopy (gSt ((mSets τ (mRho τ) np).1) 25 0 (nI (mSets τ (mRho τ) np).2)) np) np np).1) _ _ _ (by omega) (mIt_next hstep hst1.2.1 hst1.2.2) hP hD hS (lv_sub hl [1, 2, 0] rfl)
            · 
              refine lv_iload hx hb d_Md_run_74 (lv_at hl 0 rfl) ?_
              refine lv_iload_n hx hb d_Md_run_76 rfl (lv_at hl 3 rfl) ?_
              refine lv_icmp_ne (tgt := 128) hx hb d_Md_run_77 (by decide) (fun c_18 => ?_) (fun c_18 => ?_)
              · 
                have hstep : mStep np (τ, lst) = ((mSets τ (mRho τ) np).1, lst) := by simp [mStep, mAccB, c_3, c_12, c_14, c_16, c_18]
                have h8b : ((mSets τ (mRho τ) np).1) 8 0 = nI np := (congrFun (mSets_fix τ (mRho τ) (by decide) np) 0).trans h8
                refine lv_aload_n hx hb d_Md_run_128 rfl (lv_at hl 2 rfl) ?_
                refine g_vi (k := 0) (As := []) (rest := []) (own := R_Md) (C := R_Md) (index := 151) ⟨hx, hb, hml, hown, hts⟩ (c_Md_next l D t a ((mSets τ (mRho τ) np).1) np h8b hN8) (gg_Md_151 _) (by decide +kernel) ⟨Nat.le_of_ble_eq_true rfl, Nat.le_of_ble_eq_true rfl⟩ rfl (va_recv hK.1 hP (ci := 7) (q0 := 0) rfl (wMd_0 t a ((mSets τ (mRho τ) np).1))) hK hP hD hS hl.1 rfl (Nat.le_of_ble_eq_true rfl) ⟨Nat.zero_le _, Nat.zero_le _⟩ d_Md_run_129 (fun r_19 u_19 H locs q_19 hP hD hS => ?_)
                obtain ⟨rfl, hu_19⟩ := q_19
                rw [hu_19] at hP hD
                refine lv_istore_n (lv' := [(2, .int ((mNext ((mSets τ (mRho τ) np).1) np np).2)), (4, .int (mTrySum np τ)), (3, .int (nI (mSets τ (mRho τ) np).2)), (0, .ref (a 0)), (1, .int lst)]) hx hb d_Md_run_132 rfl hl (by decide) rfl (fun ls hl => ?_)
                refine lv_goto (tgt := 39) hx hb d_Md_run_133 (by decide) ?_
                exact ih k lst ((mNext ((mSets τ (mRho τ) np).1) np np).2) ((mNext ((mSets τ (mRho τ) np).1) np np).1) _ _ _ (by omega) (mIt_next hstep hst1.2.1 hst1.2.2) hP hD hS (lv_sub hl [3, 4, 0] rfl)
              · 
                refine lv_iload_n hx hb d_Md_run_80 rfl (lv_at hl 1 rfl) ?_
                refine lv_aload_n hx hb d_Md_run_81 rfl (lv_at hl 2 rfl) ?_
                refine va_get (D := D) (ci := 7) (v := .int (((mSets τ (mRho τ) np).1) 25 0)) (C := R_Md) (T := F_Md) (N := 34) hx hb hts (fun w h => List.mem_cons_of_mem _ (i_Md w h)) hown hK.1 hP 0 (wMd_0 t a ((mSets τ (mRho τ) np).1)) rfl 25 (by decide) (hts (.fieldLink R_Md 141 "FlatBoxesModel" "boxes" "I") (List.mem_cons_of_mem _ (gIn k_691 (by decide +kernel)))) (fun _ h9 => h9) rfl d_Md_run_82 ?_
                refine lv_icmp_ge (tgt := 128) hx hb d_Md_run_85 (by decide) (fun c_20 => ?_) (fun c_20 => ?_)
                · 
                  have hstep : mStep np (τ, lst) = ((mSets τ (mRho τ) np).1, lst) := by simp [mStep, mAccB, c_3, c_12, c_14, c_16, c_18, c_20]
                  have h8b : ((mSets τ (mRho τ) np).1) 8 0 = nI np := (congrFun (mSets_fix τ (mRho τ) (by decide) np) 0).trans h8
                  refine lv_aload_n hx hb d_Md_run_128 rfl (lv_at hl 2 rfl) ?_
                  refine g_vi (k := 0) (As := []) (rest := []) (own := R_Md) (C := R_Md) (index := 151) ⟨hx, hb, hml, hown, hts⟩ (c_Md_next l D t a ((mSets τ (mRho τ) np).1) np h8b hN8) (gg_Md_151 _) (by decide +kernel) ⟨Nat.le_of_ble_eq_true rfl, Nat.le_of_ble_eq_true rfl⟩ rfl (va_recv hK.1 hP (ci := 7) (q0 := 0) rfl (wMd_0 t a ((mSets τ (mRho τ) np).1))) hK hP hD hS hl.1 rfl (Nat.le_of_ble_eq_true rfl) ⟨Nat.zero_le _, Nat.zero_le _⟩ d_Md_run_129 (fun r_21 u_21 H locs q_21 hP hD hS => ?_)
                  obtain ⟨rfl, hu_21⟩ := q_21
                  rw [hu_21] at hP hD
                  refine lv_istore_n (lv' := [(2, .int ((mNext ((mSets τ (mRho τ) np).1) np np).2)), (4, .int (mTrySum np τ)), (3, .int (nI (mSets τ (mRho τ) np).2)), (0, .ref (a 0)), (1, .int lst)]) hx hb d_Md_run_132 rfl hl (by decide) rfl (fun ls hl => ?_)
                  refine lv_goto (tgt := 39) hx hb d_Md_run_133 (by decide) ?_
                  exact ih k lst ((mNext ((mSets τ (mRho τ) np).1) np np).2) ((mNext ((mSets τ (mRho τ) np).1) np np).1) _ _ _ (by omega) (mIt_next hstep hst1.2.1 hst1.2.2) hP hD hS (lv_sub hl [3, 4, 0] rfl)
                · 
                  refine lv_iload hx hb d_Md_run_88 (lv_at hl 0 rfl) ?_
                  refine lv_istore_n (lv' := [(1, .int (mTrySum np τ)), (4, .int (mTrySum np τ)), (3, .int (nI (mSets τ (mRho τ) np).2)), (0, .ref (a 0)), (2, .int mr)]) hx hb d_Md_run_90 rfl hl (by decide) rfl (fun ls hl => ?_)
                  refine lv_aload_n hx hb d_Md_run_91 rfl (lv_at hl 3 rfl) ?_
                  refine lv_iload_n hx hb d_Md_run_92 rfl (lv_at hl 2 rfl) ?_
                  refine va_put (D := D) (ci := 7) (v := .int (nI (mSets τ (mRho τ) np).2)) (ty := .int) (C := R_Md) (T := F_Md) (N := 34) hx hb hts (fun w h => List.mem_cons_of_mem _ (i_Md w h)) t_Md t_Md_ok n_Md hown hK.1 hP hD hS 0 (wMd_0 t a ((mSets τ (mRho τ) np).1)) rfl 25 (by decide) (hts (.fieldLink R_Md 141 "FlatBoxesModel" "boxes" "I") (List.mem_cons_of_mem _ (gIn k_691 (by decide +kernel)))) (fun _ h9 => h9) rfl (by decide +kernel) rfl rfl (Nat.le_of_ble_eq_true rfl) d_Md_run_93 (fun H locs hP hD hS => ?_)
                  have hP : va_P D gCl (wMd t a (gSt ((mSets τ (mRho τ) np).1) 25 0 (nI (mSets τ (mRho τ) np).2))) H := hP
                  have hD : va_D A (wMd t a (gSt ((mSets τ (mRho τ) np).1) 25 0 (nI (mSets τ (mRho τ) np).2))) := hD
                  refine lv_iconst (v := 0) hx hb d_Md_run_96 (by decide) ?_
                  refine lv_istore (lv' := [(5, .int 0), (1, .int (mTrySum np τ)), (4, .int (mTrySum np τ)), (3, .int (nI (mSets τ (mRho τ) np).2)), (0, .ref (a 0)), (2, .int mr)]) hx hb d_Md_run_97 hl (by decide) rfl (fun ls hl => ?_)
                  refine cut_99 (np + 1) 0 (mTrySum np τ) (gSt ((mSets τ (mRho τ) np).1) 25 0 (nI (mSets τ (mRho τ) np).2)) (gSt ((mSets τ (mRho τ) np).1) 25 0 (nI (mSets τ (mRho τ) np).2)) _ _ _ (by omega) (by omega) (rfl) ((congrFun (mSets_fix τ (mRho τ) (by decide) np) 0).trans h8) (fun H locs ls  hP hD hS hl => ?_) hP hD hS (lv_sub hl [4, 1, 0] rfl)
                  have hstep : mStep np (τ, lst) = (mCopy (gSt ((mSets τ (mRho τ) np).1) 25 0 (nI (mSets τ (mRho τ) np).2)) np, mTrySum np τ) := by simp [mStep, mAccB, c_3, c_12, c_14, c_16, c_18, c_20]
                  have h8b : (mCopy (gSt ((mSets τ (mRho τ) np).1) 25 0 (nI (mSets τ (mRho τ) np).2)) np) 8 0 = nI np := (congrFun (mCopy_fix _ (by decide) np) 0).trans ((congrFun (mSets_fix τ (mRho τ) (by decide) np) 0).trans h8)
                  refine lv_aload_n hx hb d_Md_run_128 rfl (lv_at hl 0 rfl) ?_
                  refine g_vi (k := 0) (As := []) (rest := []) (own := R_Md) (C := R_Md) (index := 151) ⟨hx, hb, hml, hown, hts⟩ (c_Md_next l D t a (mCopy (gSt ((mSets τ (mRho τ) np).1) 25 0 (nI (mSets τ (mRho τ) np).2)) np) np h8b hN8) (gg_Md_151 _) (by decide +kernel) ⟨Nat.le_of_ble_eq_true rfl, Nat.le_of_ble_eq_true rfl⟩ rfl (va_recv hK.1 hP (ci := 7) (q0 := 0) rfl (wMd_0 t a (mCopy (gSt ((mSets τ (mRho τ) np).1) 25 0 (nI (mSets τ (mRho τ) np).2)) np))) hK hP hD hS hl.1 rfl (Nat.le_of_ble_eq_true rfl) ⟨Nat.zero_le _, Nat.zero_le _⟩ d_Md_run_129 (fun r_22 u_22 H locs q_22 hP hD hS => ?_)
                  obtain ⟨rfl, hu_22⟩ := q_22
                  rw [hu_22] at hP hD
                  refine lv_istore_n (lv' := [(2, .int ((mNext (mCopy (gSt ((mSets τ (mRho τ) np).1) 25 0 (nI (mSets τ (mRho τ) np).2)) np) np np).2)), (0, .ref (a 0)), (1, .int (mTrySum np τ))]) hx hb d_Md_run_132 rfl hl (by decide) rfl (fun ls hl => ?_)
                  refine lv_goto (tgt := 39) hx hb d_Md_run_133 (by decide) ?_
                  exact ih k (mTrySum np τ) ((mNext (mCopy (gSt ((mSets τ (mRho τ) np).1) 25 0 (nI (mSets τ (mRho τ) np).2)) np) np np).2) ((mNext (mCopy (gSt ((mSets τ (mRho τ) np).1) 25 0 (nI (mSets τ (mRho τ) np).2)) np) np np).1) _ _ _ (by omega) (mIt_next hstep hst1.2.1 hst1.2.2) hP hD hS (lv_sub hl [1, 2, 0] rfl)
  have cut_11 : ∀ (n : Nat) (k : Nat) (τ : Nat → Nat → Int32) (H : Heap) (locs : List Loc) (ls : Array Slot), (k ≤ 8) → (9 ≤ k + n) → (mZr (mFBs (gSt σ 0 0 0) ord nc np (NN - 1)) k = τ) → va_P D gCl (wMd t a τ) H → va_D A (wMd t a τ) → va_S A s.heap H locs → lv_has ls 6 [(0, .ref (a 0)), (1, .int (nI k))] → gGo l p e s m below meth c D t A 3 [.ref (a 0)] (wMd t a) (fun r u => r = mRunR (mIter np NI (mRun0 σ ord nc np NN)) ∧ u = mRunU (mIter np NI (mRun0 σ ord nc np NN))) H locs (F0 m 11 ls []) := by
    intro n
    induction n with
    | zero =>
      intro k τ H locs ls hk hf hs hP hD hS hl
      exact absurd hf (by omega)
    | succ n ih =>
      intro k τ H locs ls hk hf hs hP hD hS hl
      refine lv_iload_n hx hb d_Md_run_11 rfl (lv_at hl 1 rfl) ?_
      refine lv_bipush (v := 8) hx hb d_Md_run_12 (by decide) ?_
      refine lv_icmp_ge (tgt := 30) hx hb d_Md_run_14 (by decide) (fun c_23 => ?_) (fun c_23 => ?_)
      · 
        have h_23 : 8 ≤ k := (nI_leI (a := 8) (b := k) (by omega) (by omega)).mp c_23
        refine lv_iconst (v := -1) hx hb d_Md_run_30 (by decide) ?_
        refine lv_istore_n (lv' := [(1, .int (-1)), (0, .ref (a 0))]) hx hb d_Md_run_31 rfl hl (by decide) rfl (fun ls hl => ?_)
        refine lv_aload_n hx hb d_Md_run_32 rfl (lv_at hl 1 rfl) ?_
        refine lv_iconst (v := 0) hx hb d_Md_run_33 (by decide) ?_
        refine va_put (D := D) (ci := 7) (v := .int 0) (ty := .int) (C := R_Md) (T := F_Md) (N := 34) hx hb hts (fun w h => List.mem_cons_of_mem _ (i_Md w h)) t_Md t_Md_ok n_Md hown hK.1 hP hD hS 0 (wMd_0 t a τ) rfl 25 (by decide) (hts (.fieldLink R_Md 141 "FlatBoxesModel" "boxes" "I") (List.mem_cons_of_mem _ (gIn k_691 (by decide +kernel)))) (fun _ h9 => h9) rfl (by decide +kernel) rfl rfl (Nat.le_of_ble_eq_true rfl) d_Md_run_34 (fun H locs hP hD hS => ?_)
        have hP : va_P D gCl (wMd t a (gSt τ 25 0 0)) H := hP
        have hD : va_D A (wMd t a (gSt τ 25 0 0)) := hD
        refine lv_iconst (v := 1) hx hb d_Md_run_37 (by decide) ?_
        refine lv_istore_n (lv' := [(2, .int 1), (1, .int (-1)), (0, .ref (a 0))]) hx hb d_Md_run_38 rfl hl (by decide) rfl (fun ls hl => ?_)
        exact cut_39 (NI + 1) NI (-1) 1 (gSt τ 25 0 0) _ _ _ (by omega) (by subst hs; obtain rfl : k = 8 := (by omega); exact Or.inr ⟨rfl, hOK, rfl⟩) hP hD hS (lv_sub hl [2, 1, 0] rfl)
      · 
        have h_23 : ¬ 8 ≤ k := fun q9 => c_23 ((nI_leI (a := 8) (b := k) (by omega) (by omega)).mpr q9)
        refine lv_aload_n hx hb d_Md_run_17 rfl (lv_at hl 0 rfl) ?_
        refine va_get (D := D) (ci := 7) (v := .ref (a 27)) (C := R_Md) (T := F_Md) (N := 34) hx hb hts (fun w h => List.mem_cons_of_mem _ (i_Md w h)) hown hK.1 hP 0 (wMd_0 t a τ) rfl 27 (by decide) (hts (.fieldLink R_Md 71 "FlatBoxesModel" "trial" "[I") (List.mem_cons_of_mem _ (gIn k_693 (by decide +kernel)))) (fun _ h9 => h9) rfl d_Md_run_18 ?_
        refine lv_iload_n hx hb d_Md_run_21 rfl (lv_at hl 1 rfl) ?_
        refine lv_iconst (v := 0) hx hb d_Md_run_22 (by decide) ?_
        refine g_iast hx hb hK.1 hP hD hS 21 0 (wMd_27 t a τ) rfl k (rfl) (by omega) (by decide) (w' := wMd t a (gSt τ 27 k 0)) (sMd_27 t a τ k 0) d_Md_run_23 (fun H locs hP hD hS => ?_)
        refine lv_iinc (v := nI (k + 1)) (lv' := [(1, .int (nI (k + 1))), (0, .ref (a 0))]) hx hb d_Md_run_24 hl (k := 1) rfl (nI_1 k) (by decide) rfl (fun ls hl => ?_)
        refine lv_goto (tgt := 11) hx hb d_Md_run_27 (by decide) ?_
        exact ih (k + 1) (gSt τ 27 k 0) _ _ _ (by omega) (by omega) (by rw [← hs]; rfl) hP hD hS (lv_sub hl [1, 0] rfl)
  refine lv_aload_n hx hb d_Md_run_0 rfl (lv_at hl 0 rfl) ?_
  refine lv_iconst (v := 0) hx hb d_Md_run_1 (by decide) ?_
  refine va_put (D := D) (ci := 7) (v := .int 0) (ty := .int) (C := R_Md) (T := F_Md) (N := 34) hx hb hts (fun w h => List.mem_cons_of_mem _ (i_Md w h)) t_Md t_Md_ok n_Md hown hK.1 hP hD hS 0 (wMd_0 t a σ) rfl 0 (by decide) (hts (.fieldLink R_Md 93 "FlatBoxesModel" "code" "I") (List.mem_cons_of_mem _ (gIn k_666 (by decide +kernel)))) (fun _ h9 => h9) rfl (by decide +kernel) rfl rfl (Nat.le_of_ble_eq_true rfl) d_Md_run_2 (fun H locs hP hD hS => ?_)
  have hP : va_P D gCl (wMd t a (gSt σ 0 0 0)) H := hP
  have hD : va_D A (wMd t a (gSt σ 0 0 0)) := hD
  refine lv_aload_n hx hb d_Md_run_5 rfl (lv_at hl 0 rfl) ?_
  refine g_vv (k := 0) (As := []) (rest := []) (own := R_Md) (C := R_Md) (index := 138) ⟨hx, hb, hml, hown, hts⟩ (c_Md_findBoxes l D t a (gSt σ 0 0 0) nc np NN ord hC hC4 hN hN8 hNN hN1 hN2 hord) (gg_Md_138 _) (by decide +kernel) ⟨Nat.le_of_ble_eq_true rfl, Nat.le_of_ble_eq_true rfl⟩ rfl (va_recv hK.1 hP (ci := 7) (q0 := 0) rfl (wMd_0 t a (gSt σ 0 0 0))) hK hP hD hS hl.1 rfl (Nat.le_of_ble_eq_true rfl) ⟨Nat.zero_le _, Nat.zero_le _⟩ d_Md_run_6 (fun u_24 H locs q_24 hP hD hS => ?_)
  have hu_24 : u_24 = _ := q_24
  rw [hu_24] at hP hD
  refine lv_iconst (v := 0) hx hb d_Md_run_9 (by decide) ?_
  refine lv_istore_n (lv' := [(1, .int 0), (0, .ref (a 0))]) hx hb d_Md_run_10 rfl hl (by decide) rfl (fun ls hl => ?_)
  exact cut_11 (9) 0 (mFBs (gSt σ 0 0 0) ord nc np (NN - 1)) _ _ _ (by omega) (by omega) (rfl) hP hD hS (lv_sub hl [1, 0] rfl)
end
