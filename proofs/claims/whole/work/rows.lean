section
-- ===== PART A: goes FIRST, ahead of the names: the tables' words, and 'selects' of the private methods out of them =====
/-- a private method of a class that the tables say can be made, by its rows of tables_1 -/
def lw_okq (q : MethodName × Nat) : Prop := (q.1.cls ≠ "java/lang/invoke/MethodHandle" ∧ q.1.cls ≠ "java/lang/invoke/VarHandle") ∧ Cond.instantiable q.1.cls q.2 ∈ tables_1 ∧ Cond.privateMethod q.1 ∈ tables_1 ∧ Cond.instanceMethod q.1 ∈ tables_1
theorem lw_p0 : lw_okq (⟨"BlockFinder", "addTo", "(LBlockFinder$Rectangles;IIII)I"⟩, 14) := ⟨⟨by decide +kernel, by decide +kernel⟩, List.mem_of_getElem? (i := 8) (by decide +kernel), List.mem_of_getElem? (i := 161) (by decide +kernel), List.mem_of_getElem? (i := 162) (by decide +kernel)⟩
theorem lw_p1 : lw_okq (⟨"BlockFinder", "liesOnSheet", "(IIII)Z"⟩, 14) := ⟨⟨by decide +kernel, by decide +kernel⟩, List.mem_of_getElem? (i := 8) (by decide +kernel), List.mem_of_getElem? (i := 165) (by decide +kernel), List.mem_of_getElem? (i := 166) (by decide +kernel)⟩
theorem lw_p2 : lw_okq (⟨"BlockFinder", "joinBoxes", "(LBlockFinder$Sets;Z)V"⟩, 14) := ⟨⟨by decide +kernel, by decide +kernel⟩, List.mem_of_getElem? (i := 8) (by decide +kernel), List.mem_of_getElem? (i := 181) (by decide +kernel), List.mem_of_getElem? (i := 182) (by decide +kernel)⟩
theorem lw_p3 : lw_okq (⟨"BlockFinder", "joinLines", "()V"⟩, 14) := ⟨⟨by decide +kernel, by decide +kernel⟩, List.mem_of_getElem? (i := 8) (by decide +kernel), List.mem_of_getElem? (i := 241) (by decide +kernel), List.mem_of_getElem? (i := 242) (by decide +kernel)⟩
theorem lw_p4 : lw_okq (⟨"BlockFinder", "measureBoxesOfBlocks", "()V"⟩, 14) := ⟨⟨by decide +kernel, by decide +kernel⟩, List.mem_of_getElem? (i := 8) (by decide +kernel), List.mem_of_getElem? (i := 256) (by decide +kernel), List.mem_of_getElem? (i := 257) (by decide +kernel)⟩
theorem lw_p5 : lw_okq (⟨"BlockFinder", "groupOfBox", "(I)I"⟩, 14) := ⟨⟨by decide +kernel, by decide +kernel⟩, List.mem_of_getElem? (i := 8) (by decide +kernel), List.mem_of_getElem? (i := 260) (by decide +kernel), List.mem_of_getElem? (i := 261) (by decide +kernel)⟩
theorem lw_p6 : lw_okq (⟨"BlockFinder", "judge", "(I)I"⟩, 14) := ⟨⟨by decide +kernel, by decide +kernel⟩, List.mem_of_getElem? (i := 8) (by decide +kernel), List.mem_of_getElem? (i := 265) (by decide +kernel), List.mem_of_getElem? (i := 266) (by decide +kernel)⟩
theorem lw_p7 : lw_okq (⟨"BlockFinder", "liesInPane", "(I)Z"⟩, 14) := ⟨⟨by decide +kernel, by decide +kernel⟩, List.mem_of_getElem? (i := 8) (by decide +kernel), List.mem_of_getElem? (i := 269) (by decide +kernel), List.mem_of_getElem? (i := 270) (by decide +kernel)⟩
theorem lw_p8 : lw_okq (⟨"BlockFinder", "isStamp", "(I)Z"⟩, 14) := ⟨⟨by decide +kernel, by decide +kernel⟩, List.mem_of_getElem? (i := 8) (by decide +kernel), List.mem_of_getElem? (i := 277) (by decide +kernel), List.mem_of_getElem? (i := 278) (by decide +kernel)⟩
theorem lw_p9 : lw_okq (⟨"BlockFinder", "isSender", "(I)Z"⟩, 14) := ⟨⟨by decide +kernel, by decide +kernel⟩, List.mem_of_getElem? (i := 8) (by decide +kernel), List.mem_of_getElem? (i := 281) (by decide +kernel), List.mem_of_getElem? (i := 282) (by decide +kernel)⟩
theorem lw_p10 : lw_okq (⟨"BlockFinder", "lineInBlock", "(II)I"⟩, 14) := ⟨⟨by decide +kernel, by decide +kernel⟩, List.mem_of_getElem? (i := 8) (by decide +kernel), List.mem_of_getElem? (i := 323) (by decide +kernel), List.mem_of_getElem? (i := 324) (by decide +kernel)⟩
theorem lw_p11 : lw_okq (⟨"BlockFinderModel", "isOnSheet", "(IIII)Z"⟩, 29) := ⟨⟨by decide +kernel, by decide +kernel⟩, List.mem_of_getElem? (i := 355) (by decide +kernel), List.mem_of_getElem? (i := 454) (by decide +kernel), List.mem_of_getElem? (i := 455) (by decide +kernel)⟩
theorem lw_p12 : lw_okq (⟨"BlockFinderModel", "findLines", "(Z)I"⟩, 29) := ⟨⟨by decide +kernel, by decide +kernel⟩, List.mem_of_getElem? (i := 355) (by decide +kernel), List.mem_of_getElem? (i := 466) (by decide +kernel), List.mem_of_getElem? (i := 467) (by decide +kernel)⟩
theorem lw_p13 : lw_okq (⟨"BlockFinderModel", "areBoxesNear", "(II)Z"⟩, 29) := ⟨⟨by decide +kernel, by decide +kernel⟩, List.mem_of_getElem? (i := 355) (by decide +kernel), List.mem_of_getElem? (i := 470) (by decide +kernel), List.mem_of_getElem? (i := 471) (by decide +kernel)⟩
theorem lw_p14 : lw_okq (⟨"BlockFinderModel", "lower", "(I)I"⟩, 29) := ⟨⟨by decide +kernel, by decide +kernel⟩, List.mem_of_getElem? (i := 355) (by decide +kernel), List.mem_of_getElem? (i := 474) (by decide +kernel), List.mem_of_getElem? (i := 475) (by decide +kernel)⟩
theorem lw_p15 : lw_okq (⟨"BlockFinderModel", "side", "(II)I"⟩, 29) := ⟨⟨by decide +kernel, by decide +kernel⟩, List.mem_of_getElem? (i := 355) (by decide +kernel), List.mem_of_getElem? (i := 478) (by decide +kernel), List.mem_of_getElem? (i := 479) (by decide +kernel)⟩
def lw_privs_1 : List (MethodName × Nat) := [(⟨"BlockFinder", "addTo", "(LBlockFinder$Rectangles;IIII)I"⟩, 14), (⟨"BlockFinder", "liesOnSheet", "(IIII)Z"⟩, 14), (⟨"BlockFinder", "joinBoxes", "(LBlockFinder$Sets;Z)V"⟩, 14), (⟨"BlockFinder", "joinLines", "()V"⟩, 14), (⟨"BlockFinder", "measureBoxesOfBlocks", "()V"⟩, 14), (⟨"BlockFinder", "groupOfBox", "(I)I"⟩, 14), (⟨"BlockFinder", "judge", "(I)I"⟩, 14), (⟨"BlockFinder", "liesInPane", "(I)Z"⟩, 14), (⟨"BlockFinder", "isStamp", "(I)Z"⟩, 14), (⟨"BlockFinder", "isSender", "(I)Z"⟩, 14), (⟨"BlockFinder", "lineInBlock", "(II)I"⟩, 14), (⟨"BlockFinderModel", "isOnSheet", "(IIII)Z"⟩, 29), (⟨"BlockFinderModel", "findLines", "(Z)I"⟩, 29), (⟨"BlockFinderModel", "areBoxesNear", "(II)Z"⟩, 29), (⟨"BlockFinderModel", "lower", "(I)I"⟩, 29), (⟨"BlockFinderModel", "side", "(II)I"⟩, 29)]
theorem lw_r1 : ∀ q ∈ lw_privs_1, lw_okq q := List.forall_mem_cons.mpr ⟨lw_p0, List.forall_mem_cons.mpr ⟨lw_p1, List.forall_mem_cons.mpr ⟨lw_p2, List.forall_mem_cons.mpr ⟨lw_p3, List.forall_mem_cons.mpr ⟨lw_p4, List.forall_mem_cons.mpr ⟨lw_p5, List.forall_mem_cons.mpr ⟨lw_p6, List.forall_mem_cons.mpr ⟨lw_p7, List.forall_mem_cons.mpr ⟨lw_p8, List.forall_mem_cons.mpr ⟨lw_p9, List.forall_mem_cons.mpr ⟨lw_p10, List.forall_mem_cons.mpr ⟨lw_p11, List.forall_mem_cons.mpr ⟨lw_p12, List.forall_mem_cons.mpr ⟨lw_p13, List.forall_mem_cons.mpr ⟨lw_p14, List.forall_mem_cons.mpr ⟨lw_p15, fun _ h => absurd h List.not_mem_nil⟩⟩⟩⟩⟩⟩⟩⟩⟩⟩⟩⟩⟩⟩⟩⟩
theorem lw_p16 : lw_okq (⟨"BlockFinderModel", "upper", "(I)I"⟩, 29) := ⟨⟨by decide +kernel, by decide +kernel⟩, List.mem_of_getElem? (i := 355) (by decide +kernel), List.mem_of_getElem? (i := 485) (by decide +kernel), List.mem_of_getElem? (i := 486) (by decide +kernel)⟩
theorem lw_p17 : lw_okq (⟨"BlockFinderModel", "left", "(I)I"⟩, 29) := ⟨⟨by decide +kernel, by decide +kernel⟩, List.mem_of_getElem? (i := 355) (by decide +kernel), List.mem_of_getElem? (i := 492) (by decide +kernel), List.mem_of_getElem? (i := 493) (by decide +kernel)⟩
theorem lw_p18 : lw_okq (⟨"BlockFinderModel", "right", "(I)I"⟩, 29) := ⟨⟨by decide +kernel, by decide +kernel⟩, List.mem_of_getElem? (i := 355) (by decide +kernel), List.mem_of_getElem? (i := 496) (by decide +kernel), List.mem_of_getElem? (i := 497) (by decide +kernel)⟩
theorem lw_p19 : lw_okq (⟨"BlockFinderModel", "high", "(I)I"⟩, 29) := ⟨⟨by decide +kernel, by decide +kernel⟩, List.mem_of_getElem? (i := 355) (by decide +kernel), List.mem_of_getElem? (i := 500) (by decide +kernel), List.mem_of_getElem? (i := 501) (by decide +kernel)⟩
theorem lw_p20 : lw_okq (⟨"BlockFinderModel", "rectangles", "()V"⟩, 29) := ⟨⟨by decide +kernel, by decide +kernel⟩, List.mem_of_getElem? (i := 355) (by decide +kernel), List.mem_of_getElem? (i := 504) (by decide +kernel), List.mem_of_getElem? (i := 505) (by decide +kernel)⟩
theorem lw_p21 : lw_okq (⟨"BlockFinderModel", "sortLines", "()V"⟩, 29) := ⟨⟨by decide +kernel, by decide +kernel⟩, List.mem_of_getElem? (i := 355) (by decide +kernel), List.mem_of_getElem? (i := 511) (by decide +kernel), List.mem_of_getElem? (i := 512) (by decide +kernel)⟩
theorem lw_p22 : lw_okq (⟨"BlockFinderModel", "isBefore", "(IIII)Z"⟩, 29) := ⟨⟨by decide +kernel, by decide +kernel⟩, List.mem_of_getElem? (i := 355) (by decide +kernel), List.mem_of_getElem? (i := 515) (by decide +kernel), List.mem_of_getElem? (i := 516) (by decide +kernel)⟩
theorem lw_p23 : lw_okq (⟨"BlockFinderModel", "findBlocks", "()V"⟩, 29) := ⟨⟨by decide +kernel, by decide +kernel⟩, List.mem_of_getElem? (i := 355) (by decide +kernel), List.mem_of_getElem? (i := 519) (by decide +kernel), List.mem_of_getElem? (i := 520) (by decide +kernel)⟩
theorem lw_p24 : lw_okq (⟨"BlockFinderModel", "areLinesNear", "(II)Z"⟩, 29) := ⟨⟨by decide +kernel, by decide +kernel⟩, List.mem_of_getElem? (i := 355) (by decide +kernel), List.mem_of_getElem? (i := 523) (by decide +kernel), List.mem_of_getElem? (i := 524) (by decide +kernel)⟩
theorem lw_p25 : lw_okq (⟨"BlockFinderModel", "keepLines", "()V"⟩, 29) := ⟨⟨by decide +kernel, by decide +kernel⟩, List.mem_of_getElem? (i := 355) (by decide +kernel), List.mem_of_getElem? (i := 527) (by decide +kernel), List.mem_of_getElem? (i := 528) (by decide +kernel)⟩
theorem lw_p26 : lw_okq (⟨"BlockFinderModel", "keepBlock", "(I)V"⟩, 29) := ⟨⟨by decide +kernel, by decide +kernel⟩, List.mem_of_getElem? (i := 355) (by decide +kernel), List.mem_of_getElem? (i := 531) (by decide +kernel), List.mem_of_getElem? (i := 532) (by decide +kernel)⟩
theorem lw_p27 : lw_okq (⟨"BlockFinderModel", "pointsOf", "(I)I"⟩, 29) := ⟨⟨by decide +kernel, by decide +kernel⟩, List.mem_of_getElem? (i := 355) (by decide +kernel), List.mem_of_getElem? (i := 535) (by decide +kernel), List.mem_of_getElem? (i := 536) (by decide +kernel)⟩
theorem lw_p28 : lw_okq (⟨"BlockFinderModel", "isInPane", "(I)Z"⟩, 29) := ⟨⟨by decide +kernel, by decide +kernel⟩, List.mem_of_getElem? (i := 355) (by decide +kernel), List.mem_of_getElem? (i := 539) (by decide +kernel), List.mem_of_getElem? (i := 540) (by decide +kernel)⟩
theorem lw_p29 : lw_okq (⟨"BlockFinderModel", "lineAt", "(I)I"⟩, 29) := ⟨⟨by decide +kernel, by decide +kernel⟩, List.mem_of_getElem? (i := 355) (by decide +kernel), List.mem_of_getElem? (i := 543) (by decide +kernel), List.mem_of_getElem? (i := 544) (by decide +kernel)⟩
theorem lw_p30 : lw_okq (⟨"BlockFinderModel", "rank", "()V"⟩, 29) := ⟨⟨by decide +kernel, by decide +kernel⟩, List.mem_of_getElem? (i := 355) (by decide +kernel), List.mem_of_getElem? (i := 547) (by decide +kernel), List.mem_of_getElem? (i := 548) (by decide +kernel)⟩
theorem lw_p31 : lw_okq (⟨"BlockFinderModel", "isFirst", "(II)Z"⟩, 29) := ⟨⟨by decide +kernel, by decide +kernel⟩, List.mem_of_getElem? (i := 355) (by decide +kernel), List.mem_of_getElem? (i := 551) (by decide +kernel), List.mem_of_getElem? (i := 552) (by decide +kernel)⟩
def lw_privs_2 : List (MethodName × Nat) := [(⟨"BlockFinderModel", "upper", "(I)I"⟩, 29), (⟨"BlockFinderModel", "left", "(I)I"⟩, 29), (⟨"BlockFinderModel", "right", "(I)I"⟩, 29), (⟨"BlockFinderModel", "high", "(I)I"⟩, 29), (⟨"BlockFinderModel", "rectangles", "()V"⟩, 29), (⟨"BlockFinderModel", "sortLines", "()V"⟩, 29), (⟨"BlockFinderModel", "isBefore", "(IIII)Z"⟩, 29), (⟨"BlockFinderModel", "findBlocks", "()V"⟩, 29), (⟨"BlockFinderModel", "areLinesNear", "(II)Z"⟩, 29), (⟨"BlockFinderModel", "keepLines", "()V"⟩, 29), (⟨"BlockFinderModel", "keepBlock", "(I)V"⟩, 29), (⟨"BlockFinderModel", "pointsOf", "(I)I"⟩, 29), (⟨"BlockFinderModel", "isInPane", "(I)Z"⟩, 29), (⟨"BlockFinderModel", "lineAt", "(I)I"⟩, 29), (⟨"BlockFinderModel", "rank", "()V"⟩, 29), (⟨"BlockFinderModel", "isFirst", "(II)Z"⟩, 29)]
theorem lw_r2 : ∀ q ∈ lw_privs_2, lw_okq q := List.forall_mem_cons.mpr ⟨lw_p16, List.forall_mem_cons.mpr ⟨lw_p17, List.forall_mem_cons.mpr ⟨lw_p18, List.forall_mem_cons.mpr ⟨lw_p19, List.forall_mem_cons.mpr ⟨lw_p20, List.forall_mem_cons.mpr ⟨lw_p21, List.forall_mem_cons.mpr ⟨lw_p22, List.forall_mem_cons.mpr ⟨lw_p23, List.forall_mem_cons.mpr ⟨lw_p24, List.forall_mem_cons.mpr ⟨lw_p25, List.forall_mem_cons.mpr ⟨lw_p26, List.forall_mem_cons.mpr ⟨lw_p27, List.forall_mem_cons.mpr ⟨lw_p28, List.forall_mem_cons.mpr ⟨lw_p29, List.forall_mem_cons.mpr ⟨lw_p30, List.forall_mem_cons.mpr ⟨lw_p31, fun _ h => absurd h List.not_mem_nil⟩⟩⟩⟩⟩⟩⟩⟩⟩⟩⟩⟩⟩⟩⟩⟩
theorem lw_p32 : lw_okq (⟨"BlockFinderModel", "isBlock", "(I)Z"⟩, 29) := ⟨⟨by decide +kernel, by decide +kernel⟩, List.mem_of_getElem? (i := 355) (by decide +kernel), List.mem_of_getElem? (i := 559) (by decide +kernel), List.mem_of_getElem? (i := 560) (by decide +kernel)⟩
theorem lw_p33 : lw_okq (⟨"BlockFinderModel", "linesOf", "(I)I"⟩, 29) := ⟨⟨by decide +kernel, by decide +kernel⟩, List.mem_of_getElem? (i := 355) (by decide +kernel), List.mem_of_getElem? (i := 563) (by decide +kernel), List.mem_of_getElem? (i := 564) (by decide +kernel)⟩
def lw_privs_3 : List (MethodName × Nat) := [(⟨"BlockFinderModel", "isBlock", "(I)Z"⟩, 29), (⟨"BlockFinderModel", "linesOf", "(I)I"⟩, 29)]
theorem lw_r3 : ∀ q ∈ lw_privs_3, lw_okq q := List.forall_mem_cons.mpr ⟨lw_p32, List.forall_mem_cons.mpr ⟨lw_p33, fun _ h => absurd h List.not_mem_nil⟩⟩
def lw_privs : List (MethodName × Nat) := lw_privs_1 ++ (lw_privs_2 ++ (lw_privs_3))
def lw_tbl : List Cond := k2_sels lw_privs ++ tables_1
theorem lw_privs_ok : ∀ q ∈ lw_privs, lw_okq q := by
  show ∀ q ∈ lw_privs_1 ++ (lw_privs_2 ++ (lw_privs_3)), lw_okq q
  exact List.forall_mem_append.mpr ⟨lw_r1, List.forall_mem_append.mpr ⟨lw_r2, lw_r3⟩⟩
end
section
/-- the tables' words that stay -/
def mv_tb : List Cond := lw_tbl.filter goodWord
theorem mv_gd : GoodIn mv_tb mv_tb := fun w hw => ⟨hw, good_of_word (List.mem_filter.mp hw).2⟩
theorem mv_in {w : Cond} (i : Nat) (h : tables_1[i]? = some w) (hg : goodWord w = true) : w ∈ mv_tb := List.mem_filter.mpr ⟨List.mem_append_right _ (List.mem_of_getElem? h), hg⟩
theorem mv_inS {w : Cond} (i : Nat) (h : (k2_sels lw_privs)[i]? = some w) (hg : goodWord w = true) : w ∈ mv_tb := List.mem_filter.mpr ⟨List.mem_append_left _ (List.mem_of_getElem? h), hg⟩
def mv_ne : List (String × Nat × MethodName × String) := [("BlockFinder", 23, ⟨"BlockFinder$Sets", "<init>", "()V"⟩, "BlockFinder"), ("BlockFinder", 36, ⟨"BlockFinder$Groups", "<init>", "()V"⟩, "BlockFinder")]
theorem mv_ne_in : ∀ q ∈ mv_ne, Cond.methodLinkNest q.1 q.2.1 q.2.2.1 q.2.2.2 ∈ lw_tbl := List.forall_mem_cons.mpr ⟨List.mem_append_right _ (List.mem_of_getElem? (i := 53) (by decide +kernel)), List.forall_mem_cons.mpr ⟨List.mem_append_right _ (List.mem_of_getElem? (i := 71) (by decide +kernel)), fun _ h => absurd h List.not_mem_nil⟩⟩
/-- the words of private constructors of nest mates -/
def mv_nw (U : State) : Prop := ∀ q ∈ mv_ne, va_Nw (.methodLinkNest q.1 q.2.1 q.2.2.1 q.2.2.2) U
/-! names: fields, classes, methods, links; printed by wip/whole/names.py out of the task's listing -/
def nR_G : String := "BlockFinder$Groups"
def nT_G : u_T := fun k => match k with
  | 0 => ("BlockFinder$Groups", "rectangles", "LBlockFinder$Rectangles;", true)
  | 1 => ("BlockFinder$Groups", "parts", "[I", true)
  | 2 => ("BlockFinder$Groups", "leastPart", "[I", true)
  | 3 => ("BlockFinder$Groups", "points", "[I", true)
  | 4 => ("BlockFinder$Groups", "groupOf", "[I", true)
  | 5 => ("BlockFinder$Groups", "order", "[I", true)
  | _ => ("BlockFinder$Groups", "place", "[I", true)
def ny_G : Nat → FieldType := fun k => match k with
  | 0 => .object "BlockFinder$Rectangles"
  | 1 => .array .int
  | 2 => .array .int
  | 3 => .array .int
  | 4 => .array .int
  | 5 => .array .int
  | _ => .array .int
theorem nn_G : ∀ a, a < 7 → ∀ b, b < 7 → a ≠ b → (nT_G a).2.1 ≠ (nT_G b).2.1 := by decide +kernel
theorem nt_G : ∀ k, k < 7 → parseFieldDescriptor (nT_G k).2.2.1 = some (ny_G k) := by decide +kernel
def nR_R : String := "BlockFinder$Rectangles"
def nT_R : u_T := fun k => match k with
  | 0 => ("BlockFinder$Rectangles", "left", "[I", true)
  | 1 => ("BlockFinder$Rectangles", "upper", "[I", true)
  | 2 => ("BlockFinder$Rectangles", "right", "[I", true)
  | 3 => ("BlockFinder$Rectangles", "lower", "[I", true)
  | _ => ("BlockFinder$Rectangles", "count", "I", false)
def ny_R : Nat → FieldType := fun k => match k with
  | 0 => .array .int
  | 1 => .array .int
  | 2 => .array .int
  | 3 => .array .int
  | _ => .int
theorem nn_R : ∀ a, a < 5 → ∀ b, b < 5 → a ≠ b → (nT_R a).2.1 ≠ (nT_R b).2.1 := by decide +kernel
theorem nt_R : ∀ k, k < 5 → parseFieldDescriptor (nT_R k).2.2.1 = some (ny_R k) := by decide +kernel
def nR_S : String := "BlockFinder$Sets"
def nT_S : u_T := fun k => match k with
  | 0 => ("BlockFinder$Sets", "least", "[I", true)
  | 1 => ("BlockFinder$Sets", "members", "I", false)
  | _ => ("BlockFinder$Sets", "count", "I", false)
def ny_S : Nat → FieldType := fun k => match k with
  | 0 => .array .int
  | 1 => .int
  | _ => .int
theorem nn_S : ∀ a, a < 3 → ∀ b, b < 3 → a ≠ b → (nT_S a).2.1 ≠ (nT_S b).2.1 := by decide +kernel
theorem nt_S : ∀ k, k < 3 → parseFieldDescriptor (nT_S k).2.2.1 = some (ny_S k) := by decide +kernel
def nR_BF : String := "BlockFinder"
def nT_BF : u_T := fun k => match k with
  | 0 => ("BlockFinder", "sheetWidth", "I", true)
  | 1 => ("BlockFinder", "sheetHeight", "I", true)
  | 2 => ("BlockFinder", "boxes", "LBlockFinder$Rectangles;", true)
  | 3 => ("BlockFinder", "panes", "LBlockFinder$Rectangles;", true)
  | 4 => ("BlockFinder", "standingLines", "LBlockFinder$Sets;", true)
  | 5 => ("BlockFinder", "turnedLines", "LBlockFinder$Sets;", true)
  | 6 => ("BlockFinder", "nearLines", "LBlockFinder$Sets;", true)
  | 7 => ("BlockFinder", "lines", "LBlockFinder$Groups;", true)
  | 8 => ("BlockFinder", "blocks", "LBlockFinder$Groups;", true)
  | 9 => ("BlockFinder", "blockSize", "[I", true)
  | 10 => ("BlockFinder", "highestBox", "[I", true)
  | 11 => ("BlockFinder", "lowestBox", "[I", true)
  | 12 => ("BlockFinder", "placeOfBox", "[I", true)
  | _ => ("BlockFinder", "foundTurned", "Z", false)
def ny_BF : Nat → FieldType := fun k => match k with
  | 0 => .int
  | 1 => .int
  | 2 => .object "BlockFinder$Rectangles"
  | 3 => .object "BlockFinder$Rectangles"
  | 4 => .object "BlockFinder$Sets"
  | 5 => .object "BlockFinder$Sets"
  | 6 => .object "BlockFinder$Sets"
  | 7 => .object "BlockFinder$Groups"
  | 8 => .object "BlockFinder$Groups"
  | 9 => .array .int
  | 10 => .array .int
  | 11 => .array .int
  | 12 => .array .int
  | _ => .boolean
theorem nn_BF : ∀ a, a < 14 → ∀ b, b < 14 → a ≠ b → (nT_BF a).2.1 ≠ (nT_BF b).2.1 := by decide +kernel
theorem nt_BF : ∀ k, k < 14 → parseFieldDescriptor (nT_BF k).2.2.1 = some (ny_BF k) := by decide +kernel
def nR_RM : String := "BlockFinderModel"
def nT_RM : u_T := fun k => match k with
  | 0 => ("BlockFinderModel", "code", "I", false)
  | 1 => ("BlockFinderModel", "wide", "I", true)
  | 2 => ("BlockFinderModel", "tall", "I", true)
  | 3 => ("BlockFinderModel", "boxes", "I", false)
  | 4 => ("BlockFinderModel", "box", "[I", true)
  | 5 => ("BlockFinderModel", "panes", "I", false)
  | 6 => ("BlockFinderModel", "pane", "[I", true)
  | 7 => ("BlockFinderModel", "way", "Z", false)
  | 8 => ("BlockFinderModel", "lineOf", "[I", true)
  | 9 => ("BlockFinderModel", "lineCount", "I", false)
  | 10 => ("BlockFinderModel", "line", "[I", true)
  | 11 => ("BlockFinderModel", "lineLeast", "[I", true)
  | 12 => ("BlockFinderModel", "blockOf", "[I", true)
  | 13 => ("BlockFinderModel", "found", "Z", false)
  | 14 => ("BlockFinderModel", "turned", "Z", false)
  | 15 => ("BlockFinderModel", "blocks", "I", false)
  | 16 => ("BlockFinderModel", "block", "[I", true)
  | 17 => ("BlockFinderModel", "blockLeast", "[I", true)
  | 18 => ("BlockFinderModel", "points", "[I", true)
  | 19 => ("BlockFinderModel", "isPrinted", "[Z", true)
  | 20 => ("BlockFinderModel", "order", "[I", true)
  | 21 => ("BlockFinderModel", "keptLines", "I", false)
  | 22 => ("BlockFinderModel", "kept", "[I", true)
  | 23 => ("BlockFinderModel", "keptLeast", "[I", true)
  | 24 => ("BlockFinderModel", "keptBoxes", "[I", true)
  | 25 => ("BlockFinderModel", "keptBlock", "[I", true)
  | 26 => ("BlockFinderModel", "seen", "I", false)
  | 27 => ("BlockFinderModel", "inBlock", "[I", true)
  | _ => ("BlockFinderModel", "ownLines", "I", false)
def ny_RM : Nat → FieldType := fun k => match k with
  | 0 => .int
  | 1 => .int
  | 2 => .int
  | 3 => .int
  | 4 => .array .int
  | 5 => .int
  | 6 => .array .int
  | 7 => .boolean
  | 8 => .array .int
  | 9 => .int
  | 10 => .array .int
  | 11 => .array .int
  | 12 => .array .int
  | 13 => .boolean
  | 14 => .boolean
  | 15 => .int
  | 16 => .array .int
  | 17 => .array .int
  | 18 => .array .int
  | 19 => .array .boolean
  | 20 => .array .int
  | 21 => .int
  | 22 => .array .int
  | 23 => .array .int
  | 24 => .array .int
  | 25 => .array .int
  | 26 => .int
  | 27 => .array .int
  | _ => .int
theorem nn_RM : ∀ a, a < 29 → ∀ b, b < 29 → a ≠ b → (nT_RM a).2.1 ≠ (nT_RM b).2.1 := by decide +kernel
theorem nt_RM : ∀ k, k < 29 → parseFieldDescriptor (nT_RM k).2.2.1 = some (ny_RM k) := by decide +kernel
abbrev classes : List vw_C := [(nR_G, nT_G, 7), (nR_R, nT_R, 5), (nR_S, nT_S, 3), (nR_BF, nT_BF, 14), (nR_RM, nT_RM, 29)]
abbrev ki_G : Nat := 0
abbrev ki_R : Nat := 1
abbrev ki_S : Nat := 2
abbrev ki_BF : Nat := 3
abbrev ki_RM : Nat := 4
theorem ni_G : ∀ w ∈ u_ws nR_G nT_G 7, w ∈ mv_tb := by decide +kernel
theorem ni_R : ∀ w ∈ u_ws nR_R nT_R 5, w ∈ mv_tb := by decide +kernel
theorem ni_S : ∀ w ∈ u_ws nR_S nT_S 3, w ∈ mv_tb := by decide +kernel
theorem ni_BF : ∀ w ∈ u_ws nR_BF nT_BF 14, w ∈ mv_tb := by decide +kernel
theorem ni_RM : ∀ w ∈ u_ws nR_RM nT_RM 29, w ∈ mv_tb := by decide +kernel
theorem mv_good {c : Cond} (h : c ∈ mv_tb) : GoodIn mv_tb (c :: mv_tb) := fun w hw => (List.mem_cons.mp hw).elim (fun e => e ▸ mv_gd c h) (mv_gd w)
end
section
/-! THE SMALL MACHINE: a method walked over a pure memory. Ints are Ints in range, cells have numbers (0 null, 1 the script, then as they are made). -/
abbrev mv_V : Type := Int ⊕ Nat
abbrev mv_C : Type := (Nat × (Int → Int)) ⊕ (Nat × (Nat → mv_V))
abbrev mv_M : Type := Nat × (Nat → mv_C)
def mv_r (x : Int) : Prop := -2147483648 ≤ x ∧ x ≤ 2147483647
def mv_i (x : Int) : Int32 := Int32.ofInt x
theorem mv_to {x : Int} (h : mv_r x) : (mv_i x).toInt = x := by
  unfold mv_r at h
  exact Int32.toInt_ofInt_of_le (by omega) (by omega)
theorem mv_lt {x y : Int} (hx : mv_r x) (hy : mv_r y) : mv_i x < mv_i y ↔ x < y := by
  rw [Int32.lt_iff_toInt_lt, mv_to hx, mv_to hy]
theorem mv_le {x y : Int} (hx : mv_r x) (hy : mv_r y) : mv_i x ≤ mv_i y ↔ x ≤ y := by
  rw [Int32.le_iff_toInt_le, mv_to hx, mv_to hy]
theorem mv_eq {x y : Int} (hx : mv_r x) (hy : mv_r y) : mv_i x = mv_i y ↔ x = y := by
  rw [← Int32.toInt_inj, mv_to hx, mv_to hy]
theorem mv_r0 : mv_r 0 := by unfold mv_r; omega
theorem mv_i0 : mv_i 0 = 0 := by decide +kernel
theorem mv_cl {x : Int} (h : mv_r x) : (mv_i x).toNatClampNeg = x.toNat := by
  rw [← Int32.toNat_toInt, mv_to h]
theorem mv_vin {x : Int} {n : Nat} (h : mv_r x) (h0 : 0 ≤ x) (hn : x < n) : vp_in (mv_i x) n := by
  rw [vp_in_iff, mv_to h]; exact ⟨h0, hn⟩
theorem mv_rz (z : Int32) : mv_r z.toInt := by
  have h1 := Int32.toInt_lt z
  have h2 := Int32.le_toInt z
  unfold mv_r; omega
theorem mv_iz (z : Int32) : mv_i z.toInt = z := Int32.ofInt_toInt z
def mv_t (ad : Nat → Nat) : mv_V → Value
  | .inl x => .int (mv_i x)
  | .inr 0 => .null
  | .inr (k + 1) => .ref (ad (k + 1))
theorem mv_tr {ad : Nat → Nat} {k : Nat} (h : k ≠ 0) : mv_t ad (.inr k) = .ref (ad k) := by
  cases k with
  | zero => exact absurd rfl h
  | succ k => rfl
theorem mv_cat (ad : Nat → Nat) (v : mv_V) : (mv_t ad v).category = 1 := by
  rcases v with x | k
  · rfl
  · cases k <;> rfl
theorem mv_cats (ad : Nat → Nat) (st : List mv_V) : ((st.map (mv_t ad)).map fun v => v.category).sum = st.length := by
  induction st with
  | nil => rfl
  | cons v st ih =>
    rw [List.map_cons, List.map_cons, List.sum_cons, ih, mv_cat, List.length_cons]
    omega
def mv_N (ci : Nat) : Nat := match classes[ci]? with
  | some q => q.2.2
  | none => 0
theorem mv_Nof {ci : Nat} {C : String} {T : u_T} {N : Nat} (h : classes[ci]? = some (C, T, N)) : mv_N ci = N := by
  unfold mv_N; rw [h]
def mv_b : mv_V → Int32
  | .inl x => mv_i x
  | .inr _ => 0
/-- an object's class has a number below 4096; 5000 and n: a row of n booleans -/
def mv_e (cA : ClassId × ClassId) (ad : Nat → Nat) : mv_C → va_E
  | .inl a => .inl (cA.1, a.1, .inl (fun j => mv_i (a.2 (j : Int))))
  | .inr o => if 5000 ≤ o.1 then .inl (cA.2, o.1 - 5000, .inl (fun j => mv_b (o.2 j))) else .inr (o.1, (List.range (mv_N o.1)).map (fun k => mv_t ad (o.2 k)))
theorem mv_e_o {cA : ClassId × ClassId} {ad : Nat → Nat} {ci : Nat} {fs : Nat → mv_V} (h : ci < 4096) : mv_e cA ad (.inr (ci, fs)) = .inr (ci, (List.range (mv_N ci)).map (fun k => mv_t ad (fs k))) := by
  show (if 5000 ≤ ci then _ else _) = _
  rw [if_neg (by omega)]
theorem mv_e_z {cA : ClassId × ClassId} {ad : Nat → Nat} {n : Nat} {fs : Nat → mv_V} : mv_e cA ad (.inr (5000 + n, fs)) = .inl (cA.2, n, .inl (fun j => mv_b (fs j))) := by
  show (if 5000 ≤ 5000 + n then _ else _) = _
  rw [if_pos (by omega)]
  show Sum.inl (cA.2, 5000 + n - 5000, _) = _
  rw [show 5000 + n - 5000 = n by omega]
def mv_w (cA : ClassId × ClassId) (ad : Nat → Nat) (M : mv_M) : va_W := (List.range (M.1 - 2)).map (fun k => (ad (k + 2), mv_e cA ad (M.2 (k + 2))))
theorem mv_w_get {cA : ClassId × ClassId} {ad : Nat → Nat} {M : mv_M} (j : Nat) : (mv_w cA ad M)[j]? = if j < M.1 - 2 then some (ad (j + 2), mv_e cA ad (M.2 (j + 2))) else none := by
  unfold mv_w
  rw [List.getElem?_map]
  by_cases h : j < M.1 - 2
  · rw [List.getElem?_range h, if_pos h]; rfl
  · rw [if_neg h, List.getElem?_eq_none (by rw [List.length_range]; omega)]; rfl
theorem mv_w_at {cA : ClassId × ClassId} {ad : Nat → Nat} {M : mv_M} {k : Nat} (h2 : 2 ≤ k) (hk : k < M.1) : (mv_w cA ad M)[k - 2]? = some (ad k, mv_e cA ad (M.2 k)) := by
  rw [mv_w_get, if_pos (by omega), show k - 2 + 2 = k by omega]
theorem mv_w_of {cA : ClassId × ClassId} {ad : Nat → Nat} {M : mv_M} {j : Nat} {q : Nat × va_E} (h : (mv_w cA ad M)[j]? = some q) : ∃ k, k = j + 2 ∧ 2 ≤ k ∧ k < M.1 ∧ q = (ad k, mv_e cA ad (M.2 k)) := by
  rw [mv_w_get] at h
  by_cases hj : j < M.1 - 2
  · rw [if_pos hj] at h
    exact ⟨j + 2, rfl, by omega, by omega, (Option.some.inj h).symm⟩
  · rw [if_neg hj] at h; cases h
def mv_u {α : Type} (f : Nat → α) (k : Nat) (x : α) : Nat → α := fun j => cond (Nat.beq j k) x (f j)
theorem mv_us {α : Type} {f : Nat → α} {k : Nat} {x : α} : mv_u f k x k = x := by
  unfold mv_u
  rw [show Nat.beq k k = true from Nat.beq_refl k]; rfl
theorem mv_un {α : Type} {f : Nat → α} {k j : Nat} {x : α} (h : j ≠ k) : mv_u f k x j = f j := by
  unfold mv_u
  rw [show Nat.beq j k = false from by
    cases hb : Nat.beq j k with
    | false => rfl
    | true => exact absurd (Nat.eq_of_beq_eq_true hb) h]
  rfl
def mv_p (M : mv_M) (k : Nat) (c : mv_C) : mv_M := (M.1, mv_u M.2 k c)
theorem mv_ps {M : mv_M} {k : Nat} {c : mv_C} : (mv_p M k c).2 k = c := mv_us
theorem mv_pn {M : mv_M} {k j : Nat} {c : mv_C} (h : j ≠ k) : (mv_p M k c).2 j = M.2 j := mv_un h
theorem mv_w_set {cA : ClassId × ClassId} {ad : Nat → Nat} {M : mv_M} {k : Nat} {c : mv_C} (h2 : 2 ≤ k) (hk : k < M.1) : (mv_w cA ad M).set (k - 2) (ad k, mv_e cA ad c) = mv_w cA ad (mv_p M k c) := by
  apply List.ext_getElem?
  intro j
  rw [List.getElem?_set, mv_w_get, mv_w_get]
  have hlen : (mv_w cA ad M).length = M.1 - 2 := by simp [mv_w]
  have h1 : (mv_p M k c).1 = M.1 := rfl
  rw [h1, hlen]
  by_cases hj : k - 2 = j
  · subst hj
    rw [if_pos rfl, if_pos (by omega), if_pos (by omega), show k - 2 + 2 = k by omega, mv_ps]
  · rw [if_neg hj]
    by_cases hl : j < M.1 - 2
    · rw [if_pos hl, if_pos hl, mv_pn (by omega)]
    · rw [if_neg hl, if_neg hl]
def mv_ok (n : Nat) : mv_V → Prop
  | .inl x => mv_r x
  | .inr k => k < n
def mv_okc (n : Nat) : mv_C → Prop
  | .inl a => a.1 < 2147483648 ∧ ∀ j, mv_r (a.2 j)
  | .inr o => ∀ k, mv_ok n (o.2 k)
def mv_dead : mv_C := .inr (4096, fun _ => .inr 0)
def mv_wf (M : mv_M) : Prop := 2 ≤ M.1 ∧ (∀ k, mv_okc M.1 (M.2 k)) ∧ ∀ k, (k = 0 ∨ M.1 ≤ k) → M.2 k = mv_dead
theorem mv_ok_up {n n' : Nat} (h : n ≤ n') {v : mv_V} (hv : mv_ok n v) : mv_ok n' v := by
  rcases v with x | k
  · exact hv
  · exact Nat.lt_of_lt_of_le hv h
theorem mv_okc_up {n n' : Nat} (h : n ≤ n') {v : mv_C} (hv : mv_okc n v) : mv_okc n' v := by
  rcases v with a | o
  · exact hv
  · exact fun k => mv_ok_up h (hv k)
theorem mv_t_ad {n : Nat} {ad ad' : Nat → Nat} (h : ∀ k, k < n → ad' k = ad k) {v : mv_V} (hv : mv_ok n v) : mv_t ad' v = mv_t ad v := by
  rcases v with x | k
  · rfl
  · cases k with
    | zero => rfl
    | succ k => show Value.ref _ = Value.ref _; rw [h _ hv]
theorem mv_ts_ad {n : Nat} {ad ad' : Nat → Nat} (h : ∀ k, k < n → ad' k = ad k) {st : List mv_V} (hv : ∀ v ∈ st, mv_ok n v) : st.map (mv_t ad') = st.map (mv_t ad) :=
  List.map_congr_left (fun v hm => mv_t_ad h (hv v hm))
theorem mv_e_ad {cA : ClassId × ClassId} {n : Nat} {ad ad' : Nat → Nat} (h : ∀ k, k < n → ad' k = ad k) {c : mv_C} (hv : mv_okc n c) : mv_e cA ad' c = mv_e cA ad c := by
  rcases c with a | o
  · rfl
  · show (if 5000 ≤ o.1 then _ else Sum.inr (o.1, (List.range (mv_N o.1)).map (fun k => mv_t ad' (o.2 k)))) = (if 5000 ≤ o.1 then _ else _)
    rw [List.map_congr_left (fun k _ => mv_t_ad h (hv k))]
theorem mv_wf_put {M : mv_M} (h : mv_wf M) {k : Nat} {c : mv_C} (h1 : 1 ≤ k) (h2 : k < M.1) (hc : mv_okc M.1 c) : mv_wf (mv_p M k c) := by
  refine ⟨h.1, fun j => ?_, fun j hj => ?_⟩
  · show mv_okc M.1 _
    by_cases hj : j = k
    · subst hj; rw [mv_ps]; exact hc
    · rw [mv_pn hj]; exact h.2.1 j
  · have hj' : j = 0 ∨ M.1 ≤ j := hj
    rw [mv_pn (by omega)]; exact h.2.2 j hj'
theorem mv_wf_new {M : mv_M} (h : mv_wf M) {c : mv_C} (hc : mv_okc (M.1 + 1) c) : mv_wf (M.1 + 1, mv_u M.2 M.1 c) := by
  refine ⟨by have := h.1; show 2 ≤ M.1 + 1; omega, fun j => ?_, fun j hj => ?_⟩
  · show mv_okc (M.1 + 1) (mv_u M.2 M.1 c j)
    by_cases hj : j = M.1
    · subst hj; rw [mv_us]; exact hc
    · rw [mv_un hj]; exact mv_okc_up (Nat.le_succ _) (h.2.1 j)
  · have hj' : j = 0 ∨ M.1 + 1 ≤ j := hj
    have := h.1
    show mv_u M.2 M.1 c j = mv_dead
    rw [mv_un (by omega)]; exact h.2.2 j (by omega)
theorem mv_w_new {cA : ClassId × ClassId} {ad : Nat → Nat} {M : mv_M} (h : mv_wf M) {c : mv_C} {q : Nat} {e : va_E} (he : mv_e cA (mv_u ad M.1 q) c = e) : mv_w cA ad M ++ [(q, e)] = mv_w cA (mv_u ad M.1 q) (M.1 + 1, mv_u M.2 M.1 c) := by
  have h2 := h.1
  have had : ∀ k, k < M.1 → mv_u ad M.1 q k = ad k := fun k hk => mv_un (by omega)
  apply List.ext_getElem?
  intro j
  have hlen : (mv_w cA ad M).length = M.1 - 2 := by simp [mv_w]
  rw [List.getElem?_append, hlen, mv_w_get, mv_w_get]
  show _ = if j < M.1 + 1 - 2 then _ else none
  by_cases hj : j < M.1 - 2
  · rw [if_pos hj, if_pos hj, if_pos (by omega)]
    show some (ad (j + 2), _) = some (mv_u ad M.1 q (j + 2), mv_e cA (mv_u ad M.1 q) (mv_u M.2 M.1 c (j + 2)))
    rw [had _ (by omega), mv_un (show j + 2 ≠ M.1 by omega), mv_e_ad had (h.2.1 (j + 2))]
  · rw [if_neg hj]
    by_cases hj2 : j = M.1 - 2
    · subst hj2
      rw [if_pos (by omega), Nat.sub_self]
      show some (q, e) = some (mv_u ad M.1 q (M.1 - 2 + 2), mv_e cA (mv_u ad M.1 q) (mv_u M.2 M.1 c (M.1 - 2 + 2)))
      rw [show M.1 - 2 + 2 = M.1 by omega, mv_us, mv_us, he]
    · rw [if_neg (by omega), List.getElem?_eq_none (by simp; omega)]
def mv_X (ad : Nat → Nat) (M : mv_M) (U : State) (H : Heap) : Prop := ∃ (L : Nat) (f : Int → Int), M.2 1 = .inl (L, f) ∧ va_X (ad 1) L (fun j => mv_i (f (j : Int))) U H
def mv_S (D : va_G) (cA : ClassId × ClassId) (A : Nat → Prop) (s : State) (ad : Nat → Nat) (M : mv_M) (H : Heap) (locs : List Loc) : Prop :=
  mv_wf M ∧ va_P D classes (mv_w cA ad M) H ∧ va_D A (mv_w cA ad M) ∧ va_S A s.heap H locs ∧ (∀ q, s.heap.size ≤ q → A q) ∧ mv_X ad M s s.heap ∧ ad 1 < s.heap.size ∧ ¬ A (ad 1)
/-- an object that is in the memory has a number of its own -/
theorem mv_liveO {M : mv_M} (hwf : mv_wf M) {ad : Nat → Nat} {U : State} {H : Heap} (hX : mv_X ad M U H) {k ci : Nat} {fs : Nat → mv_V} (h : M.2 k = .inr (ci, fs)) (hci : ci ≠ 4096) : 2 ≤ k ∧ k < M.1 := by
  obtain ⟨L, f, h1, -⟩ := hX
  have hne : M.2 k ≠ mv_dead := by
    intro hd
    rw [h] at hd
    have := (Sum.inr.inj hd)
    have := (Prod.mk.inj this).1
    omega
  refine ⟨?_, ?_⟩
  · rcases Nat.lt_or_ge k 2 with hk | hk
    · exfalso
      rcases (show k = 0 ∨ k = 1 by omega) with rfl | rfl
      · exact hne (hwf.2.2 0 (Or.inl rfl))
      · rw [h1] at h; cases h
    · exact hk
  · rcases Nat.lt_or_ge k M.1 with hk | hk
    · exact hk
    · exact absurd (hwf.2.2 k (Or.inr hk)) hne
theorem mv_liveA {M : mv_M} (hwf : mv_wf M) {k n : Nat} {f : Int → Int} (h : M.2 k = .inl (n, f)) : 1 ≤ k ∧ k < M.1 := by
  have hne : M.2 k ≠ mv_dead := by
    intro hd
    rw [h] at hd
    cases hd
  refine ⟨?_, ?_⟩
  · rcases Nat.eq_zero_or_pos k with hk | hk
    · exact absurd (hwf.2.2 k (Or.inl hk)) hne
    · exact hk
  · rcases Nat.lt_or_ge k M.1 with hk | hk
    · exact hk
    · exact absurd (hwf.2.2 k (Or.inr hk)) hne
def mv_L (nL : Nat) (ad : Nat → Nat) (n : Nat) (ls : Array Slot) (lo : List mv_V) : Prop :=
  (∃ l : List (Nat × Value), lv_has ls nL l ∧ ∀ k v, lo[k]? = some v → v ≠ .inr 0 → (k, mv_t ad v) ∈ l) ∧ lo.length = nL ∧ ∀ v ∈ lo, mv_ok n v
theorem mv_L.size {nL : Nat} {ad : Nat → Nat} {n : Nat} {ls : Array Slot} {lo : List mv_V} (h : mv_L nL ad n ls lo) : ls.size = nL := by
  obtain ⟨⟨l, h1, -⟩, -⟩ := h
  exact h1.1
theorem mv_L.get {nL : Nat} {ad : Nat → Nat} {n : Nat} {ls : Array Slot} {lo : List mv_V} (h : mv_L nL ad n ls lo) {k : Nat} {v : mv_V} (hk : lo[k]? = some v) (hv : v ≠ .inr 0) : ls[k]? = some (.val (mv_t ad v)) := by
  obtain ⟨⟨l, h1, h2⟩, -⟩ := h
  exact h1.2.2 _ (h2 k v hk hv)
theorem mv_L.ok {nL : Nat} {ad : Nat → Nat} {n : Nat} {ls : Array Slot} {lo : List mv_V} (h : mv_L nL ad n ls lo) {k : Nat} {v : mv_V} (hk : lo[k]? = some v) : mv_ok n v := h.2.2 v (List.mem_of_getElem? hk)
theorem mv_L.ad {nL : Nat} {ad ad' : Nat → Nat} {n n' : Nat} {ls : Array Slot} {lo : List mv_V} (h : mv_L nL ad n ls lo) (hn : n ≤ n') (ha : ∀ k, k < n → ad' k = ad k) : mv_L nL ad' n' ls lo := by
  obtain ⟨⟨l, h1, h2⟩, h3, h4⟩ := h
  refine ⟨⟨l, h1, fun k v hk hv => ?_⟩, h3, fun v hv => mv_ok_up hn (h4 v hv)⟩
  rw [mv_t_ad ha (h4 v (List.mem_of_getElem? hk))]
  exact h2 k v hk hv
/-- what lv_istore and its like give back -/
theorem mv_L.set {nL : Nat} {ad : Nat → Nat} {n : Nat} {ls' : Array Slot} {lo : List mv_V} {l : List (Nat × Value)} {i : Nat} {v : mv_V} (h2 : ∀ k v, lo[k]? = some v → v ≠ .inr 0 → (k, mv_t ad v) ∈ l) (h3 : lo.length = nL) (h4 : ∀ v ∈ lo, mv_ok n v)
    (hv : mv_ok n v) (h' : lv_has ls' nL ((i, mv_t ad v) :: l.filter (fun q => !(q.1 == i) && !(q.1 + 1 == i && q.2.category == 2)))) : mv_L nL ad n ls' (lo.set i v) := by
  refine ⟨⟨_, h', fun k w hk hw => ?_⟩, by rw [List.length_set]; exact h3, fun w hw => ?_⟩
  · rw [List.getElem?_set] at hk
    by_cases hik : i = k
    · subst hik
      rw [if_pos rfl] at hk
      by_cases hl : i < lo.length
      · rw [if_pos hl] at hk
        rw [← Option.some.inj hk]
        exact List.mem_cons_self
      · rw [if_neg hl] at hk; cases hk
    · rw [if_neg hik] at hk
      refine List.mem_cons_of_mem _ (List.mem_filter.mpr ⟨h2 k w hk hw, ?_⟩)
      have e1 : (k == i) = false := by simpa using fun h => hik h.symm
      have e2 : ((mv_t ad w).category == 2) = false := by rw [mv_cat]; rfl
      simp only [e1, e2, Bool.and_false, Bool.not_false, Bool.and_self]
  · rcases List.mem_or_eq_of_mem_set hw with h | h
    · exact h4 w h
    · rw [h]; exact hv
/-- a method: its name, bytes, locals, answer's type, room -/
abbrev mv_D : Type := MethodName × ByteArray × Nat × Option FieldType × Room
def mv_G (md : mv_D) (D : va_G) (cA : ClassId × ClassId) (p : Program) (R : Room) (s : State) (m : MethodId) (args : Array Value) (meth : Method) (c : Code) : Prop :=
  p.tables.exec = Jvm.exec ∧ c.code = md.2.1 ∧ c.maxLocals = md.2.2.1 ∧ s.vm.findClass md.1.cls = some m.cls ∧ (∀ w ∈ mv_tb, w.before args s = true) ∧ meth.name = md.1.name ∧ va_K D classes [(cA.1, .int), (cA.2, .boolean)] s ∧ R = md.2.2.2.2 ∧ mv_nw s
/-- how a method may end -/
def mv_Rt (md : mv_D) (pc : Nat) (r : List mv_V) : Prop :=
  (r = [] ∧ md.2.2.2.1 = none ∧ decode md.2.1 pc = .ok (.return_, 1)) ∨ ∃ (x : Int) (ty : FieldType), r = [.inl x] ∧ md.2.2.2.1 = some ty ∧ narrow ty (.int (mv_i x)) = .int (mv_i x) ∧ decode md.2.1 pc = .ok (.ireturn, 1)
def mv_E (md : mv_D) (D : va_G) (cA : ClassId × ClassId) (A : Nat → Prop) (p : Program) (l : Launch) (e : Env) (R : Room) (s : State) (m : MethodId) (args : Array Value) (below : List Frame) (meth : Method) (c : Code) (Qr : State → Prop) (ad : Nat → Nat) (n : Nat) (Q : List mv_V → mv_M → Prop) : Prop :=
  ∀ (r : List mv_V) (M' : mv_M) (ad' : Nat → Nat) (ls' : Array Slot) (H' : Heap) (locs' : List Loc) (k1 k2 pc' : Nat), Q r M' → n ≤ M'.1 → (∀ k, k < n → ad' k = ad k) → mv_S D cA A s ad' M' H' locs' → (∀ v ∈ r, mv_ok M'.1 v) → k1 ≤ R.cells → k2 ≤ R.slots → mv_Rt md pc' r →
    W p l e R s m args below meth c H' locs' k1 k2 Qr (F0 m pc' ls' (r.map (mv_t ad')))
theorem mv_E.up {md : mv_D} {D : va_G} {cA : ClassId × ClassId} {A : Nat → Prop} {p : Program} {l : Launch} {e : Env} {R : Room} {s : State} {m : MethodId} {args : Array Value} {below : List Frame} {meth : Method} {c : Code} {Qr : State → Prop} {ad ad' : Nat → Nat} {n n' : Nat} {Q : List mv_V → mv_M → Prop}
    (h : mv_E md D cA A p l e R s m args below meth c Qr ad n Q) (hn : n ≤ n') (ha : ∀ k, k < n → ad' k = ad k) : mv_E md D cA A p l e R s m args below meth c Qr ad' n' Q := by
  intro r M' ad2 ls' H' locs' k1 k2 pc' hQ h1 h2 hS hr g1 g2 hR
  exact h r M' ad2 ls' H' locs' k1 k2 pc' hQ (Nat.le_trans hn h1) (fun k hk => by rw [h2 k (Nat.lt_of_lt_of_le hk hn), ha k hk]) hS hr g1 g2 hR
/-- the method md, at pc, with these locals and stack over the memory M, comes to an end with Q -/
def mv_W (md : mv_D) (pc : Nat) (lo st : List mv_V) (M : mv_M) (bu : Nat × Nat) (Q : List mv_V → mv_M → Prop) : Prop :=
  ∀ (p : Program) (l : Launch) (e : Env) (R : Room) (s : State) (m : MethodId) (args : Array Value) (below : List Frame) (meth : Method) (c : Code) (D : va_G) (cA : ClassId × ClassId) (A : Nat → Prop) (Qr : State → Prop), mv_G md D cA p R s m args meth c →
    ∀ (ad : Nat → Nat) (ls : Array Slot) (H : Heap) (locs : List Loc), mv_S D cA A s ad M H locs → mv_L md.2.2.1 ad M.1 ls lo → (∀ v ∈ st, mv_ok M.1 v) → bu.1 ≤ R.cells ∧ bu.2 ≤ R.slots → mv_E md D cA A p l e R s m args below meth c Qr ad M.1 Q →
      W p l e R s m args below meth c H locs bu.1 bu.2 Qr (F0 m pc ls (st.map (mv_t ad)))
end
section
section MX
variable {md : mv_D} {pc : Nat} {lo st : List mv_V} {M : mv_M} {bu : Nat × Nat} {Q : List mv_V → mv_M → Prop}
theorem mx_c1 {a : mv_V} {st : List mv_V} {n : Nat} (h : ∀ v ∈ a :: st, mv_ok n v) : mv_ok n a := (List.forall_mem_cons.mp h).1
theorem mx_c2 {a : mv_V} {st : List mv_V} {n : Nat} (h : ∀ v ∈ a :: st, mv_ok n v) : ∀ v ∈ st, mv_ok n v := (List.forall_mem_cons.mp h).2
theorem mx_cc {a : mv_V} {st : List mv_V} {n : Nat} (h1 : mv_ok n a) (h : ∀ v ∈ st, mv_ok n v) : ∀ v ∈ a :: st, mv_ok n v := List.forall_mem_cons.mpr ⟨h1, h⟩
theorem mx_pc {pc pc' : Nat} (h : pc = pc') (k : mv_W md pc' lo st M bu Q) : mv_W md pc lo st M bu Q := h ▸ k
theorem mx_iconst {n : Int} (x : Int) (hd : decode md.2.1 pc = .ok (.iconst n, 1)) (hv : Int32.ofInt n = mv_i x) (hr : mv_r x) (k : mv_W md (pc + 1) lo (.inl x :: st) M bu Q) : mv_W md pc lo st M bu Q := by
  intro p l e R s m args below meth c D cA A Qr G ad ls H locs S L hst hbu E
  exact lv_iconst (v := mv_i x) G.1 G.2.1 hd hv (k p l e R s m args below meth c D cA A Qr G ad ls H locs S L (mx_cc hr hst) hbu E)
theorem mx_bipush {n : Int} (x : Int) (hd : decode md.2.1 pc = .ok (.bipush n, 2)) (hv : (Int8.ofInt n).toInt32 = mv_i x) (hr : mv_r x) (k : mv_W md (pc + 2) lo (.inl x :: st) M bu Q) : mv_W md pc lo st M bu Q := by
  intro p l e R s m args below meth c D cA A Qr G ad ls H locs S L hst hbu E
  exact lv_bipush (v := mv_i x) G.1 G.2.1 hd hv (k p l e R s m args below meth c D cA A Qr G ad ls H locs S L (mx_cc hr hst) hbu E)
theorem mx_sipush {n : Int} (x : Int) (hd : decode md.2.1 pc = .ok (.sipush n, 3)) (hv : (Int16.ofInt n).toInt32 = mv_i x) (hr : mv_r x) (k : mv_W md (pc + 3) lo (.inl x :: st) M bu Q) : mv_W md pc lo st M bu Q := by
  intro p l e R s m args below meth c D cA A Qr G ad ls H locs S L hst hbu E
  exact lv_sipush (v := mv_i x) G.1 G.2.1 hd hv (k p l e R s m args below meth c D cA A Qr G ad ls H locs S L (mx_cc hr hst) hbu E)
theorem mx_ldc {ix : Nat} (x : Int) (hd : decode md.2.1 pc = .ok (.ldc ix, 2)) (hv : Jvm.Cond.constant md.1.cls ix (mv_i x) ∈ mv_tb) (hr : mv_r x) (k : mv_W md (pc + 2) lo (.inl x :: st) M bu Q) : mv_W md pc lo st M bu Q := by
  intro p l e R s m args below meth c D cA A Qr G ad ls H locs S L hst hbu E
  exact lv_ldc (v := mv_i x) G.1 G.2.1 G.2.2.2.1 (G.2.2.2.2.1 _ hv) hd (k p l e R s m args below meth c D cA A Qr G ad ls H locs S L (mx_cc hr hst) hbu E)
theorem mx_iload_n {j : Fin 4} {x : Int} (hd : decode md.2.1 pc = .ok (.iload_n j, 1)) (hl : lo[(j : Nat)]? = some (.inl x)) (k : mv_W md (pc + 1) lo (.inl x :: st) M bu Q) : mv_W md pc lo st M bu Q := by
  intro p l e R s m args below meth c D cA A Qr G ad ls H locs S L hst hbu E
  exact lv_iload_n G.1 G.2.1 hd rfl (L.get hl (by intro h; cases h)) (k p l e R s m args below meth c D cA A Qr G ad ls H locs S L (mx_cc (L.ok hl) hst) hbu E)
theorem mx_iload {j : Nat} {x : Int} (hd : decode md.2.1 pc = .ok (.iload j, 2)) (hl : lo[j]? = some (.inl x)) (k : mv_W md (pc + 2) lo (.inl x :: st) M bu Q) : mv_W md pc lo st M bu Q := by
  intro p l e R s m args below meth c D cA A Qr G ad ls H locs S L hst hbu E
  exact lv_iload G.1 G.2.1 hd (L.get hl (by intro h; cases h)) (k p l e R s m args below meth c D cA A Qr G ad ls H locs S L (mx_cc (L.ok hl) hst) hbu E)
theorem mx_aload_n {j : Fin 4} {x : Nat} (hd : decode md.2.1 pc = .ok (.aload_n j, 1)) (hl : lo[(j : Nat)]? = some (.inr x)) (hx : x ≠ 0) (k : mv_W md (pc + 1) lo (.inr x :: st) M bu Q) : mv_W md pc lo st M bu Q := by
  intro p l e R s m args below meth c D cA A Qr G ad ls H locs S L hst hbu E
  have hg := L.get hl (by intro h; exact hx (Sum.inr.inj h))
  have hk := k p l e R s m args below meth c D cA A Qr G ad ls H locs S L (mx_cc (L.ok hl) hst) hbu E
  rw [mv_tr hx] at hg
  rw [List.map_cons, mv_tr hx] at hk
  exact lv_aload_n G.1 G.2.1 hd rfl hg hk
theorem mx_aload {j : Nat} {x : Nat} (hd : decode md.2.1 pc = .ok (.aload j, 2)) (hl : lo[j]? = some (.inr x)) (hx : x ≠ 0) (k : mv_W md (pc + 2) lo (.inr x :: st) M bu Q) : mv_W md pc lo st M bu Q := by
  intro p l e R s m args below meth c D cA A Qr G ad ls H locs S L hst hbu E
  have hg := L.get hl (by intro h; exact hx (Sum.inr.inj h))
  have hk := k p l e R s m args below meth c D cA A Qr G ad ls H locs S L (mx_cc (L.ok hl) hst) hbu E
  rw [mv_tr hx] at hg
  rw [List.map_cons, mv_tr hx] at hk
  exact lv_aload G.1 G.2.1 hd hg hk
theorem mx_istore_n {j : Fin 4} {x : Int} (hd : decode md.2.1 pc = .ok (.istore_n j, 1)) (hj : (j : Nat) < md.2.2.1) (k : mv_W md (pc + 1) (lo.set (j : Nat) (.inl x)) st M bu Q) : mv_W md pc lo (.inl x :: st) M bu Q := by
  intro p l e R s m args below meth c D cA A Qr G ad ls H locs S L hst hbu E
  obtain ⟨⟨lv, g1, g2⟩, g3, g4⟩ := L
  exact lv_istore_n (x := mv_i x) G.1 G.2.1 hd rfl g1 hj rfl (fun ls' h' => k p l e R s m args below meth c D cA A Qr G ad ls' H locs S (mv_L.set (v := .inl x) g2 g3 g4 (mx_c1 hst) h') (mx_c2 hst) hbu E)
theorem mx_istore {j : Nat} {x : Int} (hd : decode md.2.1 pc = .ok (.istore j, 2)) (hj : j < md.2.2.1) (k : mv_W md (pc + 2) (lo.set j (.inl x)) st M bu Q) : mv_W md pc lo (.inl x :: st) M bu Q := by
  intro p l e R s m args below meth c D cA A Qr G ad ls H locs S L hst hbu E
  obtain ⟨⟨lv, g1, g2⟩, g3, g4⟩ := L
  exact lv_istore (x := mv_i x) G.1 G.2.1 hd g1 hj rfl (fun ls' h' => k p l e R s m args below meth c D cA A Qr G ad ls' H locs S (mv_L.set (v := .inl x) g2 g3 g4 (mx_c1 hst) h') (mx_c2 hst) hbu E)
theorem mx_astore_n {j : Fin 4} {x : Nat} (hd : decode md.2.1 pc = .ok (.astore_n j, 1)) (hj : (j : Nat) < md.2.2.1) (hx : x ≠ 0) (k : mv_W md (pc + 1) (lo.set (j : Nat) (.inr x)) st M bu Q) : mv_W md pc lo (.inr x :: st) M bu Q := by
  intro p l e R s m args below meth c D cA A Qr G ad ls H locs S L hst hbu E
  obtain ⟨⟨lv, g1, g2⟩, g3, g4⟩ := L
  rw [List.map_cons, mv_tr hx]
  exact lv_astore_n (x := ad x) G.1 G.2.1 hd rfl g1 hj rfl (fun ls' h' => k p l e R s m args below meth c D cA A Qr G ad ls' H locs S (mv_L.set (v := .inr x) g2 g3 g4 (mx_c1 hst) (by rw [mv_tr hx]; exact h')) (mx_c2 hst) hbu E)
theorem mx_astore {j : Nat} {x : Nat} (hd : decode md.2.1 pc = .ok (.astore j, 2)) (hj : j < md.2.2.1) (hx : x ≠ 0) (k : mv_W md (pc + 2) (lo.set j (.inr x)) st M bu Q) : mv_W md pc lo (.inr x :: st) M bu Q := by
  intro p l e R s m args below meth c D cA A Qr G ad ls H locs S L hst hbu E
  obtain ⟨⟨lv, g1, g2⟩, g3, g4⟩ := L
  rw [List.map_cons, mv_tr hx]
  exact lv_astore (x := ad x) G.1 G.2.1 hd g1 hj rfl (fun ls' h' => k p l e R s m args below meth c D cA A Qr G ad ls' H locs S (mv_L.set (v := .inr x) g2 g3 g4 (mx_c1 hst) (by rw [mv_tr hx]; exact h')) (mx_c2 hst) hbu E)
theorem mx_iinc {j : Nat} {n : Int} {x : Int} (hd : decode md.2.1 pc = .ok (.iinc j n, 3)) (hl : lo[j]? = some (.inl x)) (hr : mv_r (x + n)) (k : mv_W md (pc + 3) (lo.set j (.inl (x + n))) st M bu Q) : mv_W md pc lo st M bu Q := by
  intro p l e R s m args below meth c D cA A Qr G ad ls H locs S L hst hbu E
  have hjl : j < lo.length := (List.getElem?_eq_some_iff.mp hl).1
  obtain ⟨⟨lv, g1, g2⟩, g3, g4⟩ := L
  have hm := g2 j _ hl (by intro h; cases h)
  obtain ⟨kk, hkk⟩ := List.getElem?_of_mem hm
  refine lv_iinc (x := mv_i x) (v := mv_i (x + n)) G.1 G.2.1 hd g1 hkk (Int32.ofInt_add x n).symm (by rw [← g3]; exact hjl) rfl (fun ls' h' => ?_)
  exact k p l e R s m args below meth c D cA A Qr G ad ls' H locs S (mv_L.set (v := .inl (x + n)) g2 g3 g4 hr h') hst hbu E
theorem mx_iadd {x y : Int} (hd : decode md.2.1 pc = .ok (.iadd, 1)) (hr : mv_r (x + y)) (k : mv_W md (pc + 1) lo (.inl (x + y) :: st) M bu Q) : mv_W md pc lo (.inl y :: .inl x :: st) M bu Q := by
  intro p l e R s m args below meth c D cA A Qr G ad ls H locs S L hst hbu E
  refine lv_iadd (x := mv_i x) (y := mv_i y) G.1 G.2.1 hd ?_
  rw [show mv_i x + mv_i y = mv_i (x + y) from (Int32.ofInt_add x y).symm]
  exact k p l e R s m args below meth c D cA A Qr G ad ls H locs S L (mx_cc hr (mx_c2 (mx_c2 hst))) hbu E
theorem mx_isub {x y : Int} (hd : decode md.2.1 pc = .ok (.isub, 1)) (hr : mv_r (x - y)) (k : mv_W md (pc + 1) lo (.inl (x - y) :: st) M bu Q) : mv_W md pc lo (.inl y :: .inl x :: st) M bu Q := by
  intro p l e R s m args below meth c D cA A Qr G ad ls H locs S L hst hbu E
  refine lv_isub (x := mv_i x) (y := mv_i y) G.1 G.2.1 hd ?_
  rw [show mv_i x - mv_i y = mv_i (x - y) from (Int32.ofInt_sub x y).symm]
  exact k p l e R s m args below meth c D cA A Qr G ad ls H locs S L (mx_cc hr (mx_c2 (mx_c2 hst))) hbu E
theorem mx_imul {x y : Int} (hd : decode md.2.1 pc = .ok (.imul, 1)) (hr : mv_r (x * y)) (k : mv_W md (pc + 1) lo (.inl (x * y) :: st) M bu Q) : mv_W md pc lo (.inl y :: .inl x :: st) M bu Q := by
  intro p l e R s m args below meth c D cA A Qr G ad ls H locs S L hst hbu E
  refine lv_imul (x := mv_i x) (y := mv_i y) G.1 G.2.1 hd ?_
  rw [show mv_i x * mv_i y = mv_i (x * y) from (Int32.ofInt_mul x y).symm]
  exact k p l e R s m args below meth c D cA A Qr G ad ls H locs S L (mx_cc hr (mx_c2 (mx_c2 hst))) hbu E
theorem mx_ineg {x : Int} (hd : decode md.2.1 pc = .ok (.ineg, 1)) (hr : mv_r (-x)) (k : mv_W md (pc + 1) lo (.inl (-x) :: st) M bu Q) : mv_W md pc lo (.inl x :: st) M bu Q := by
  intro p l e R s m args below meth c D cA A Qr G ad ls H locs S L hst hbu E
  refine lv_ineg (x := mv_i x) G.1 G.2.1 hd ?_
  rw [show -mv_i x = mv_i (-x) from (Int32.ofInt_neg x).symm]
  exact k p l e R s m args below meth c D cA A Qr G ad ls H locs S L (mx_cc hr (mx_c2 hst)) hbu E
theorem mx_and15 {x : Int} (h : mv_r x) : mv_i x &&& mv_i 15 = mv_i (x % 16) := by
  rw [show mv_i 15 = (15 : Int32) by decide +kernel, pk_and (mv_i x) (m := 15) 4 (by decide +kernel)]
  have h1 : ((mv_i x).toBitVec.toNat % 2 ^ 4 : Int) = x % 16 := by
    have h2 := mv_to h
    have h3 : (mv_i x).toInt = (mv_i x).toBitVec.toInt := rfl
    rw [h3, BitVec.toInt_eq_toNat_cond] at h2
    have h4 := (mv_i x).toBitVec.isLt
    split at h2 <;> omega
  apply Int32.toInt_inj.mp
  rw [nI_toInt (by omega), mv_to (by unfold mv_r; omega)]
  rw [← h1]; rfl
theorem mx_iand15 {x : Int} (hd : decode md.2.1 pc = .ok (.iand, 1)) (k : mv_W md (pc + 1) lo (.inl (x % 16) :: st) M bu Q) : mv_W md pc lo (.inl 15 :: .inl x :: st) M bu Q := by
  intro p l e R s m args below meth c D cA A Qr G ad ls H locs S L hst hbu E
  refine lv_iand (x := mv_i x) (y := mv_i 15) G.1 G.2.1 hd ?_
  rw [mx_and15 (mx_c1 (mx_c2 hst))]
  exact k p l e R s m args below meth c D cA A Qr G ad ls H locs S L (mx_cc (show mv_r (x % 16) by unfold mv_r; omega) (mx_c2 (mx_c2 hst))) hbu E
theorem mx_dup {a : mv_V} (hd : decode md.2.1 pc = .ok (.dup, 1)) (k : mv_W md (pc + 1) lo (a :: a :: st) M bu Q) : mv_W md pc lo (a :: st) M bu Q := by
  intro p l e R s m args below meth c D cA A Qr G ad ls H locs S L hst hbu E
  exact lv_dup G.1 G.2.1 hd (mv_cat ad a) (k p l e R s m args below meth c D cA A Qr G ad ls H locs S L (mx_cc (mx_c1 hst) hst) hbu E)
theorem mx_pop {a : mv_V} (hd : decode md.2.1 pc = .ok (.pop, 1)) (k : mv_W md (pc + 1) lo st M bu Q) : mv_W md pc lo (a :: st) M bu Q := by
  intro p l e R s m args below meth c D cA A Qr G ad ls H locs S L hst hbu E
  exact lv_pop G.1 G.2.1 hd (mv_cat ad a) (k p l e R s m args below meth c D cA A Qr G ad ls H locs S L (mx_c2 hst) hbu E)
theorem mx_dup_x1 {a b : mv_V} (hd : decode md.2.1 pc = .ok (.dup_x1, 1)) (k : mv_W md (pc + 1) lo (a :: b :: a :: st) M bu Q) : mv_W md pc lo (a :: b :: st) M bu Q := by
  intro p l e R s m args below meth c D cA A Qr G ad ls H locs S L hst hbu E
  exact lv_dup_x1 G.1 G.2.1 hd (mv_cat ad a) (mv_cat ad b) (k p l e R s m args below meth c D cA A Qr G ad ls H locs S L (mx_cc (mx_c1 hst) (mx_cc (mx_c1 (mx_c2 hst)) (mx_cc (mx_c1 hst) (mx_c2 (mx_c2 hst))))) hbu E)
theorem mx_dup_x2 {a b d : mv_V} (hd : decode md.2.1 pc = .ok (.dup_x2, 1)) (k : mv_W md (pc + 1) lo (a :: b :: d :: a :: st) M bu Q) : mv_W md pc lo (a :: b :: d :: st) M bu Q := by
  intro p l e R s m args below meth c D cA A Qr G ad ls H locs S L hst hbu E
  exact lv_dup_x2 G.1 G.2.1 hd (mv_cat ad a) (mv_cat ad b) (mv_cat ad d) (k p l e R s m args below meth c D cA A Qr G ad ls H locs S L (mx_cc (mx_c1 hst) (mx_cc (mx_c1 (mx_c2 hst)) (mx_cc (mx_c1 (mx_c2 (mx_c2 hst))) (mx_cc (mx_c1 hst) (mx_c2 (mx_c2 (mx_c2 hst))))))) hbu E)
theorem mx_dup2 {a b : mv_V} (hd : decode md.2.1 pc = .ok (.dup2, 1)) (k : mv_W md (pc + 1) lo (a :: b :: a :: b :: st) M bu Q) : mv_W md pc lo (a :: b :: st) M bu Q := by
  intro p l e R s m args below meth c D cA A Qr G ad ls H locs S L hst hbu E
  exact lv_dup2_11 G.1 G.2.1 hd (mv_cat ad a) (mv_cat ad b) (k p l e R s m args below meth c D cA A Qr G ad ls H locs S L (mx_cc (mx_c1 hst) (mx_cc (mx_c1 (mx_c2 hst)) hst)) hbu E)
theorem mx_icmp_eq {x y : Int} {off : Int} (tgt : Nat) (hd : decode md.2.1 pc = .ok (.if_icmp .eq off, 3)) (ht : (pc : Int) + off = (tgt : Int)) (kt : x = y → mv_W md tgt lo st M bu Q) (kf : ¬ x = y → mv_W md (pc + 3) lo st M bu Q) : mv_W md pc lo (.inl y :: .inl x :: st) M bu Q := by
  intro p l e R s m args below meth c D cA A Qr G ad ls H locs S L hst hbu E
  exact lv_icmp_eq (x := mv_i x) (y := mv_i y) G.1 G.2.1 hd ht (fun h => kt ((mv_eq (mx_c1 (mx_c2 hst)) (mx_c1 hst)).mp h) p l e R s m args below meth c D cA A Qr G ad ls H locs S L (mx_c2 (mx_c2 hst)) hbu E) (fun h => kf (fun e => h (by rw [e])) p l e R s m args below meth c D cA A Qr G ad ls H locs S L (mx_c2 (mx_c2 hst)) hbu E)
theorem mx_if_eq {x : Int} {off : Int} (tgt : Nat) (hd : decode md.2.1 pc = .ok (.ifCond .eq off, 3)) (ht : (pc : Int) + off = (tgt : Int)) (kt : x = 0 → mv_W md tgt lo st M bu Q) (kf : ¬ x = 0 → mv_W md (pc + 3) lo st M bu Q) : mv_W md pc lo (.inl x :: st) M bu Q := by
  intro p l e R s m args below meth c D cA A Qr G ad ls H locs S L hst hbu E
  exact lv_if_eq (x := mv_i x) G.1 G.2.1 hd ht (fun h => kt ((mv_eq (mx_c1 hst) mv_r0).mp (by rw [h, mv_i0])) p l e R s m args below meth c D cA A Qr G ad ls H locs S L (mx_c2 hst) hbu E) (fun h => kf (fun e => h (by rw [e, mv_i0])) p l e R s m args below meth c D cA A Qr G ad ls H locs S L (mx_c2 hst) hbu E)
theorem mx_icmp_ne {x y : Int} {off : Int} (tgt : Nat) (hd : decode md.2.1 pc = .ok (.if_icmp .ne off, 3)) (ht : (pc : Int) + off = (tgt : Int)) (kt : ¬ x = y → mv_W md tgt lo st M bu Q) (kf : x = y → mv_W md (pc + 3) lo st M bu Q) : mv_W md pc lo (.inl y :: .inl x :: st) M bu Q := by
  intro p l e R s m args below meth c D cA A Qr G ad ls H locs S L hst hbu E
  exact lv_icmp_ne (x := mv_i x) (y := mv_i y) G.1 G.2.1 hd ht (fun h => kt (fun e => h (by rw [e])) p l e R s m args below meth c D cA A Qr G ad ls H locs S L (mx_c2 (mx_c2 hst)) hbu E) (fun h => kf ((mv_eq (mx_c1 (mx_c2 hst)) (mx_c1 hst)).mp h) p l e R s m args below meth c D cA A Qr G ad ls H locs S L (mx_c2 (mx_c2 hst)) hbu E)
theorem mx_if_ne {x : Int} {off : Int} (tgt : Nat) (hd : decode md.2.1 pc = .ok (.ifCond .ne off, 3)) (ht : (pc : Int) + off = (tgt : Int)) (kt : ¬ x = 0 → mv_W md tgt lo st M bu Q) (kf : x = 0 → mv_W md (pc + 3) lo st M bu Q) : mv_W md pc lo (.inl x :: st) M bu Q := by
  intro p l e R s m args below meth c D cA A Qr G ad ls H locs S L hst hbu E
  exact lv_if_ne (x := mv_i x) G.1 G.2.1 hd ht (fun h => kt (fun e => h (by rw [e, mv_i0])) p l e R s m args below meth c D cA A Qr G ad ls H locs S L (mx_c2 hst) hbu E) (fun h => kf ((mv_eq (mx_c1 hst) mv_r0).mp (by rw [h, mv_i0])) p l e R s m args below meth c D cA A Qr G ad ls H locs S L (mx_c2 hst) hbu E)
theorem mx_icmp_lt {x y : Int} {off : Int} (tgt : Nat) (hd : decode md.2.1 pc = .ok (.if_icmp .lt off, 3)) (ht : (pc : Int) + off = (tgt : Int)) (kt : x < y → mv_W md tgt lo st M bu Q) (kf : ¬ x < y → mv_W md (pc + 3) lo st M bu Q) : mv_W md pc lo (.inl y :: .inl x :: st) M bu Q := by
  intro p l e R s m args below meth c D cA A Qr G ad ls H locs S L hst hbu E
  exact lv_icmp_lt (x := mv_i x) (y := mv_i y) G.1 G.2.1 hd ht (fun h => kt ((mv_lt (mx_c1 (mx_c2 hst)) (mx_c1 hst)).mp h) p l e R s m args below meth c D cA A Qr G ad ls H locs S L (mx_c2 (mx_c2 hst)) hbu E) (fun h => kf (fun e => h ((mv_lt (mx_c1 (mx_c2 hst)) (mx_c1 hst)).mpr e)) p l e R s m args below meth c D cA A Qr G ad ls H locs S L (mx_c2 (mx_c2 hst)) hbu E)
theorem mx_if_lt {x : Int} {off : Int} (tgt : Nat) (hd : decode md.2.1 pc = .ok (.ifCond .lt off, 3)) (ht : (pc : Int) + off = (tgt : Int)) (kt : x < 0 → mv_W md tgt lo st M bu Q) (kf : ¬ x < 0 → mv_W md (pc + 3) lo st M bu Q) : mv_W md pc lo (.inl x :: st) M bu Q := by
  intro p l e R s m args below meth c D cA A Qr G ad ls H locs S L hst hbu E
  exact lv_if_lt (x := mv_i x) G.1 G.2.1 hd ht (fun h => kt ((mv_lt (mx_c1 hst) mv_r0).mp (by rw [mv_i0]; exact h)) p l e R s m args below meth c D cA A Qr G ad ls H locs S L (mx_c2 hst) hbu E) (fun h => kf (fun e => h (by rw [← mv_i0]; exact (mv_lt (mx_c1 hst) mv_r0).mpr e)) p l e R s m args below meth c D cA A Qr G ad ls H locs S L (mx_c2 hst) hbu E)
theorem mx_icmp_ge {x y : Int} {off : Int} (tgt : Nat) (hd : decode md.2.1 pc = .ok (.if_icmp .ge off, 3)) (ht : (pc : Int) + off = (tgt : Int)) (kt : y ≤ x → mv_W md tgt lo st M bu Q) (kf : ¬ y ≤ x → mv_W md (pc + 3) lo st M bu Q) : mv_W md pc lo (.inl y :: .inl x :: st) M bu Q := by
  intro p l e R s m args below meth c D cA A Qr G ad ls H locs S L hst hbu E
  exact lv_icmp_ge (x := mv_i x) (y := mv_i y) G.1 G.2.1 hd ht (fun h => kt ((mv_le (mx_c1 hst) (mx_c1 (mx_c2 hst))).mp h) p l e R s m args below meth c D cA A Qr G ad ls H locs S L (mx_c2 (mx_c2 hst)) hbu E) (fun h => kf (fun e => h ((mv_le (mx_c1 hst) (mx_c1 (mx_c2 hst))).mpr e)) p l e R s m args below meth c D cA A Qr G ad ls H locs S L (mx_c2 (mx_c2 hst)) hbu E)
theorem mx_if_ge {x : Int} {off : Int} (tgt : Nat) (hd : decode md.2.1 pc = .ok (.ifCond .ge off, 3)) (ht : (pc : Int) + off = (tgt : Int)) (kt : 0 ≤ x → mv_W md tgt lo st M bu Q) (kf : ¬ 0 ≤ x → mv_W md (pc + 3) lo st M bu Q) : mv_W md pc lo (.inl x :: st) M bu Q := by
  intro p l e R s m args below meth c D cA A Qr G ad ls H locs S L hst hbu E
  exact lv_if_ge (x := mv_i x) G.1 G.2.1 hd ht (fun h => kt ((mv_le mv_r0 (mx_c1 hst)).mp (by rw [mv_i0]; exact h)) p l e R s m args below meth c D cA A Qr G ad ls H locs S L (mx_c2 hst) hbu E) (fun h => kf (fun e => h (by rw [← mv_i0]; exact (mv_le mv_r0 (mx_c1 hst)).mpr e)) p l e R s m args below meth c D cA A Qr G ad ls H locs S L (mx_c2 hst) hbu E)
theorem mx_icmp_gt {x y : Int} {off : Int} (tgt : Nat) (hd : decode md.2.1 pc = .ok (.if_icmp .gt off, 3)) (ht : (pc : Int) + off = (tgt : Int)) (kt : y < x → mv_W md tgt lo st M bu Q) (kf : ¬ y < x → mv_W md (pc + 3) lo st M bu Q) : mv_W md pc lo (.inl y :: .inl x :: st) M bu Q := by
  intro p l e R s m args below meth c D cA A Qr G ad ls H locs S L hst hbu E
  exact lv_icmp_gt (x := mv_i x) (y := mv_i y) G.1 G.2.1 hd ht (fun h => kt ((mv_lt (mx_c1 hst) (mx_c1 (mx_c2 hst))).mp h) p l e R s m args below meth c D cA A Qr G ad ls H locs S L (mx_c2 (mx_c2 hst)) hbu E) (fun h => kf (fun e => h ((mv_lt (mx_c1 hst) (mx_c1 (mx_c2 hst))).mpr e)) p l e R s m args below meth c D cA A Qr G ad ls H locs S L (mx_c2 (mx_c2 hst)) hbu E)
theorem mx_if_gt {x : Int} {off : Int} (tgt : Nat) (hd : decode md.2.1 pc = .ok (.ifCond .gt off, 3)) (ht : (pc : Int) + off = (tgt : Int)) (kt : 0 < x → mv_W md tgt lo st M bu Q) (kf : ¬ 0 < x → mv_W md (pc + 3) lo st M bu Q) : mv_W md pc lo (.inl x :: st) M bu Q := by
  intro p l e R s m args below meth c D cA A Qr G ad ls H locs S L hst hbu E
  exact lv_if_gt (x := mv_i x) G.1 G.2.1 hd ht (fun h => kt ((mv_lt mv_r0 (mx_c1 hst)).mp (by rw [mv_i0]; exact h)) p l e R s m args below meth c D cA A Qr G ad ls H locs S L (mx_c2 hst) hbu E) (fun h => kf (fun e => h (by rw [← mv_i0]; exact (mv_lt mv_r0 (mx_c1 hst)).mpr e)) p l e R s m args below meth c D cA A Qr G ad ls H locs S L (mx_c2 hst) hbu E)
theorem mx_icmp_le {x y : Int} {off : Int} (tgt : Nat) (hd : decode md.2.1 pc = .ok (.if_icmp .le off, 3)) (ht : (pc : Int) + off = (tgt : Int)) (kt : x ≤ y → mv_W md tgt lo st M bu Q) (kf : ¬ x ≤ y → mv_W md (pc + 3) lo st M bu Q) : mv_W md pc lo (.inl y :: .inl x :: st) M bu Q := by
  intro p l e R s m args below meth c D cA A Qr G ad ls H locs S L hst hbu E
  exact lv_icmp_le (x := mv_i x) (y := mv_i y) G.1 G.2.1 hd ht (fun h => kt ((mv_le (mx_c1 (mx_c2 hst)) (mx_c1 hst)).mp h) p l e R s m args below meth c D cA A Qr G ad ls H locs S L (mx_c2 (mx_c2 hst)) hbu E) (fun h => kf (fun e => h ((mv_le (mx_c1 (mx_c2 hst)) (mx_c1 hst)).mpr e)) p l e R s m args below meth c D cA A Qr G ad ls H locs S L (mx_c2 (mx_c2 hst)) hbu E)
theorem mx_if_le {x : Int} {off : Int} (tgt : Nat) (hd : decode md.2.1 pc = .ok (.ifCond .le off, 3)) (ht : (pc : Int) + off = (tgt : Int)) (kt : x ≤ 0 → mv_W md tgt lo st M bu Q) (kf : ¬ x ≤ 0 → mv_W md (pc + 3) lo st M bu Q) : mv_W md pc lo (.inl x :: st) M bu Q := by
  intro p l e R s m args below meth c D cA A Qr G ad ls H locs S L hst hbu E
  exact lv_if_le (x := mv_i x) G.1 G.2.1 hd ht (fun h => kt ((mv_le (mx_c1 hst) mv_r0).mp (by rw [mv_i0]; exact h)) p l e R s m args below meth c D cA A Qr G ad ls H locs S L (mx_c2 hst) hbu E) (fun h => kf (fun e => h (by rw [← mv_i0]; exact (mv_le (mx_c1 hst) mv_r0).mpr e)) p l e R s m args below meth c D cA A Qr G ad ls H locs S L (mx_c2 hst) hbu E)
theorem mx_goto {off : Int} (tgt : Nat) (hd : decode md.2.1 pc = .ok (.goto off, 3)) (ht : (pc : Int) + off = (tgt : Int)) (k : mv_W md tgt lo st M bu Q) : mv_W md pc lo st M bu Q := by
  intro p l e R s m args below meth c D cA A Qr G ad ls H locs S L hst hbu E
  exact lv_goto G.1 G.2.1 hd ht (k p l e R s m args below meth c D cA A Qr G ad ls H locs S L hst hbu E)
theorem mx_tabOut {dflt a b : Int} {offs : Array Int} {len : Nat} {x : Int} (tgt : Nat) (hd : decode md.2.1 pc = .ok (.tableswitch dflt a b offs, len)) (h : x < a ∨ b < x) (ht : (pc : Int) + dflt = (tgt : Int)) (k : mv_W md tgt lo st M bu Q) : mv_W md pc lo (.inl x :: st) M bu Q := by
  intro p l e R s m args below meth c D cA A Qr G ad ls H locs S L hst hbu E
  exact lv_tableOut (x := mv_i x) G.1 G.2.1 hd (by rw [mv_to (mx_c1 hst)]; exact h) ht (k p l e R s m args below meth c D cA A Qr G ad ls H locs S L (mx_c2 hst) hbu E)
theorem mx_tabIn {dflt a b : Int} {offs : Array Int} {len : Nat} {x off : Int} (tgt : Nat) (hd : decode md.2.1 pc = .ok (.tableswitch dflt a b offs, len)) (h1 : a ≤ x) (h2 : x ≤ b) (ho : offs[(x - a).toNat]? = some off) (ht : (pc : Int) + off = (tgt : Int)) (k : mv_W md tgt lo st M bu Q) : mv_W md pc lo (.inl x :: st) M bu Q := by
  intro p l e R s m args below meth c D cA A Qr G ad ls H locs S L hst hbu E
  exact lv_tableIn (x := mv_i x) G.1 G.2.1 hd (by rw [mv_to (mx_c1 hst)]; omega) (by rw [mv_to (mx_c1 hst)]; omega) (by rw [mv_to (mx_c1 hst)]; exact ho) ht (k p l e R s m args below meth c D cA A Qr G ad ls H locs S L (mx_c2 hst) hbu E)
theorem mx_look {dflt : Int} {ps : Array (Int × Int)} {len : Nat} {x off : Int} (tgt : Nat) (hd : decode md.2.1 pc = .ok (.lookupswitch dflt ps, len)) (hp : (ps.toList.zip (ps.toList.drop 1)).all (fun (a, next) => a.1 < next.1) = true) (ho : Op.lookupswitch.offset ps.toList dflt x = off) (ht : (pc : Int) + off = (tgt : Int)) (k : mv_W md tgt lo st M bu Q) : mv_W md pc lo (.inl x :: st) M bu Q := by
  intro p l e R s m args below meth c D cA A Qr G ad ls H locs S L hst hbu E
  exact lv_lookup (x := mv_i x) G.1 G.2.1 hd hp (by rw [mv_to (mx_c1 hst)]; exact ho) ht (k p l e R s m args below meth c D cA A Qr G ad ls H locs S L (mx_c2 hst) hbu E)
theorem mx_return (hd : decode md.2.1 pc = .ok (.return_, 1)) (hr : md.2.2.2.1 = none) (k : Q [] M) : mv_W md pc lo [] M bu Q := by
  intro p l e R s m args below meth c D cA A Qr G ad ls H locs S L hst hbu E
  exact E [] M ad ls H locs bu.1 bu.2 pc k (Nat.le_refl _) (fun _ _ => rfl) S hst hbu.1 hbu.2 (Or.inl ⟨rfl, hr, hd⟩)
theorem mx_ireturn {x : Int} (hd : decode md.2.1 pc = .ok (.ireturn, 1)) (hr : md.2.2.2.1 = some .int) (k : Q [.inl x] M) : mv_W md pc lo [.inl x] M bu Q := by
  intro p l e R s m args below meth c D cA A Qr G ad ls H locs S L hst hbu E
  exact E [.inl x] M ad ls H locs bu.1 bu.2 pc k (Nat.le_refl _) (fun _ _ => rfl) S hst hbu.1 hbu.2 (Or.inr ⟨x, .int, rfl, hr, rfl, hd⟩)
theorem mx_zreturn {x : Int} (hd : decode md.2.1 pc = .ok (.ireturn, 1)) (hr : md.2.2.2.1 = some .boolean) (hx : x = 0 ∨ x = 1) (k : Q [.inl x] M) : mv_W md pc lo [.inl x] M bu Q := by
  intro p l e R s m args below meth c D cA A Qr G ad ls H locs S L hst hbu E
  exact E [.inl x] M ad ls H locs bu.1 bu.2 pc k (Nat.le_refl _) (fun _ _ => rfl) S hst hbu.1 hbu.2 (Or.inr ⟨x, .boolean, rfl, hr, by rcases hx with rfl | rfl <;> decide +kernel, hd⟩)
end MX
end
section
/-! rows of the small machine that touch cells -/
def mv_F (own : String) (ix ci k : Nat) : Prop := ci < 4096 ∧ ∃ (C : String) (T : u_T) (N : Nat), classes[ci]? = some (C, T, N) ∧ k < N ∧ (∀ w ∈ u_ws C T N, w ∈ mv_tb) ∧ Cond.fieldLink own ix (T k).1 (T k).2.1 (T k).2.2.1 ∈ mv_tb
def mv_Pf (own : String) (ix ci k : Nat) (fin : Bool) (ty : FieldType) : Prop := ci < 4096 ∧ ∃ (C : String) (T : u_T) (N : Nat) (ty0 : Nat → FieldType), classes[ci]? = some (C, T, N) ∧ k < N ∧ (∀ w ∈ u_ws C T N, w ∈ mv_tb) ∧ Cond.fieldLink own ix (T k).1 (T k).2.1 (T k).2.2.1 ∈ mv_tb ∧
  (∀ k, k < N → parseFieldDescriptor (T k).2.2.1 = some (ty0 k)) ∧ (∀ a, a < N → ∀ b, b < N → a ≠ b → (T a).2.1 ≠ (T b).2.1) ∧ (T k).2.2.2 = fin ∧ parseFieldDescriptor (T k).2.2.1 = some ty ∧ (fin = true → (T k).1 = own)
/-- v may be written to a field of this type -/
def mv_Vt (ty : FieldType) (v : mv_V) : Prop := ∀ ad : Nat → Nat, narrow ty (mv_t ad v) = mv_t ad v ∧ fits ty (mv_t ad v) = true
theorem mv_Vi (x : Int) : mv_Vt .int (.inl x) := fun _ => ⟨rfl, rfl⟩
theorem mv_Vz {x : Int} (h : x = 0 ∨ x = 1) : mv_Vt .boolean (.inl x) := fun ad => by
  rcases h with rfl | rfl
  · show narrow .boolean (.int (mv_i 0)) = .int (mv_i 0) ∧ fits .boolean (.int (mv_i 0)) = true
    exact ⟨by decide +kernel, by decide +kernel⟩
  · show narrow .boolean (.int (mv_i 1)) = .int (mv_i 1) ∧ fits .boolean (.int (mv_i 1)) = true
    exact ⟨by decide +kernel, by decide +kernel⟩
theorem mv_Vo (C : String) (k : Nat) : mv_Vt (.object C) (.inr k) := fun ad => by
  cases k <;> exact ⟨rfl, rfl⟩
theorem mv_Va (t : FieldType) (k : Nat) : mv_Vt (.array t) (.inr k) := fun ad => by
  cases k <;> exact ⟨rfl, rfl⟩
def mv_s (f : Int → Int) (i v : Int) : Int → Int := fun j => if j = i then v else f j
theorem mv_ss {f : Int → Int} {i v : Int} : mv_s f i v i = v := if_pos rfl
theorem mv_sn {f : Int → Int} {i v j : Int} (h : j ≠ i) : mv_s f i v j = f j := if_neg h
theorem mv_rset {N k0 : Nat} {f : Nat → mv_V} {ad : Nat → Nat} {v : mv_V} : ((List.range N).map (fun k => mv_t ad (f k))).set k0 (mv_t ad v) = (List.range N).map (fun k => mv_t ad (mv_u f k0 v k)) := by
  apply List.ext_getElem?
  intro j
  rw [List.getElem?_set, List.getElem?_map, List.getElem?_map, List.length_map, List.length_range]
  by_cases hj : j < N
  · rw [List.getElem?_range hj]
    by_cases h : k0 = j
    · subst h
      rw [if_pos rfl, if_pos hj]
      show some _ = some (mv_t ad (mv_u f k0 v k0))
      rw [mv_us]
    · rw [if_neg h]
      show some _ = some (mv_t ad (mv_u f k0 v j))
      rw [mv_un (fun e => h e.symm)]
  · rw [List.getElem?_eq_none (by rw [List.length_range]; omega)]
    by_cases h : k0 = j
    · subst h
      rw [if_pos rfl, if_neg hj]; rfl
    · rw [if_neg h]; rfl
theorem mv_X_put {ad : Nat → Nat} {M : mv_M} {U : State} {H : Heap} (h : mv_X ad M U H) {k : Nat} {c : mv_C} (hk : 1 ≠ k) : mv_X ad (mv_p M k c) U H := by
  obtain ⟨L, f, h1, h2⟩ := h
  exact ⟨L, f, by rw [mv_pn hk]; exact h1, h2⟩
section MH
variable {md : mv_D} {pc : Nat} {lo st : List mv_V} {M : mv_M} {bu : Nat × Nat} {Q : List mv_V → mv_M → Prop}
theorem mx_get {ix ci k0 o : Nat} {fs : Nat → mv_V} (hd : decode md.2.1 pc = .ok (.getfield ix, 3)) (hf : mv_F md.1.cls ix ci k0) (ho : M.2 o = .inr (ci, fs)) (k : mv_W md (pc + 3) lo (fs k0 :: st) M bu Q) : mv_W md pc lo (.inr o :: st) M bu Q := by
  intro p l e R s m args below meth c D cA A Qr G ad ls H locs S L hst hbu E
  obtain ⟨hci, C, T, N, hc, hk, hu, hl⟩ := hf
  obtain ⟨h2, h3⟩ := mv_liveO S.1 S.2.2.2.2.2.1 ho (by omega)
  have he := mv_w_at (cA := cA) (ad := ad) h2 h3
  rw [ho, mv_e_o hci] at he
  have hfs : ((List.range (mv_N ci)).map (fun k => mv_t ad (fs k)))[k0]? = some (mv_t ad (fs k0)) := by
    rw [mv_Nof hc, List.getElem?_map, List.getElem?_range hk]; rfl
  have hok : mv_ok M.1 (fs k0) := by
    have := S.1.2.1 o
    rw [ho] at this
    exact this k0
  rw [List.map_cons, mv_tr (show o ≠ 0 by omega)]
  exact va_get G.1 G.2.1 G.2.2.2.2.1 hu G.2.2.2.1 G.2.2.2.2.2.2.1 S.2.1 (o - 2) he hc k0 hk (G.2.2.2.2.1 _ hl) (fun _ h => h) hfs hd (k p l e R s m args below meth c D cA A Qr G ad ls H locs S L (mx_cc hok (mx_c2 hst)) hbu E)
theorem mx_put {ix ci k0 o : Nat} {fs : Nat → mv_V} {ty : FieldType} {v : mv_V} (hd : decode md.2.1 pc = .ok (.putfield ix, 3)) (hf : mv_Pf md.1.cls ix ci k0 false ty) (ho : M.2 o = .inr (ci, fs)) (hv : mv_Vt ty v) (k : mv_W md (pc + 3) lo st (mv_p M o (.inr (ci, mv_u fs k0 v))) bu Q) : mv_W md pc lo (v :: .inr o :: st) M bu Q := by
  intro p l e R s m args below meth c D cA A Qr G ad ls H locs S L hst hbu E
  obtain ⟨hci, C, T, N, ty0, hc, hk, hu, hl, hty, hnm, hfin, hpd, -⟩ := hf
  obtain ⟨h2, h3⟩ := mv_liveO S.1 S.2.2.2.2.2.1 ho (by omega)
  have he := mv_w_at (cA := cA) (ad := ad) h2 h3
  rw [ho, mv_e_o hci] at he
  have hok : mv_okc M.1 (.inr (ci, mv_u fs k0 v)) := by
    have := S.1.2.1 o
    rw [ho] at this
    intro j
    show mv_ok M.1 (mv_u fs k0 v j)
    by_cases hj : j = k0
    · subst hj; rw [mv_us]; exact mx_c1 hst
    · rw [mv_un hj]; exact this j
  rw [List.map_cons, List.map_cons, mv_tr (show o ≠ 0 by omega)]
  refine va_put G.1 G.2.1 G.2.2.2.2.1 hu ty0 hty hnm G.2.2.2.1 G.2.2.2.2.2.2.1 S.2.1 S.2.2.1 S.2.2.2.1 (o - 2) he hc k0 hk (G.2.2.2.2.1 _ hl) (fun _ h => h) hfin hpd (hv ad).1 (hv ad).2 (by rw [List.length_map, List.length_range, mv_Nof hc]; exact hk) hd (fun H1 locs1 hP1 hD1 hS1 => ?_)
  rw [mv_rset] at hP1 hD1
  have e1 := mv_w_set (cA := cA) (ad := ad) (M := M) (c := .inr (ci, mv_u fs k0 v)) h2 h3
  rw [mv_e_o hci] at e1
  have hP2 : va_P D classes (mv_w cA ad (mv_p M o (.inr (ci, mv_u fs k0 v)))) H1 := e1 ▸ hP1
  have hD2 : va_D A (mv_w cA ad (mv_p M o (.inr (ci, mv_u fs k0 v)))) := e1 ▸ hD1
  exact k p l e R s m args below meth c D cA A Qr G ad ls H1 locs1 ⟨mv_wf_put S.1 (by omega) h3 hok, hP2, hD2, hS1, S.2.2.2.2.1, mv_X_put S.2.2.2.2.2.1 (by omega), S.2.2.2.2.2.2⟩ L (mx_c2 (mx_c2 hst)) hbu E
theorem mx_putF {ix ci k0 o : Nat} {fs : Nat → mv_V} {ty : FieldType} {v : mv_V} (hd : decode md.2.1 pc = .ok (.putfield ix, 3)) (hi : md.1.name = "<init>") (hf : mv_Pf md.1.cls ix ci k0 true ty) (ho : M.2 o = .inr (ci, fs)) (hv : mv_Vt ty v) (k : mv_W md (pc + 3) lo st (mv_p M o (.inr (ci, mv_u fs k0 v))) bu Q) : mv_W md pc lo (v :: .inr o :: st) M bu Q := by
  intro p l e R s m args below meth c D cA A Qr G ad ls H locs S L hst hbu E
  obtain ⟨hci, C, T, N, ty0, hc, hk, hu, hl, hty, hnm, hfin, hpd, hown⟩ := hf
  obtain ⟨h2, h3⟩ := mv_liveO S.1 S.2.2.2.2.2.1 ho (by omega)
  have he := mv_w_at (cA := cA) (ad := ad) h2 h3
  rw [ho, mv_e_o hci] at he
  have hok : mv_okc M.1 (.inr (ci, mv_u fs k0 v)) := by
    have := S.1.2.1 o
    rw [ho] at this
    intro j
    show mv_ok M.1 (mv_u fs k0 v j)
    by_cases hj : j = k0
    · subst hj; rw [mv_us]; exact mx_c1 hst
    · rw [mv_un hj]; exact this j
  rw [List.map_cons, List.map_cons, mv_tr (show o ≠ 0 by omega)]
  refine va_putF G.1 G.2.1 G.2.2.2.2.1 hu ty0 hty hnm G.2.2.2.1 G.2.2.2.2.2.2.1 S.2.1 S.2.2.1 S.2.2.2.1 (o - 2) he hc k0 hk (G.2.2.2.2.1 _ hl) (fun _ h => h) hfin (G.2.2.2.2.2.1.trans hi) (hown rfl) hpd (hv ad).1 (hv ad).2 (by rw [List.length_map, List.length_range, mv_Nof hc]; exact hk) hd (fun H1 locs1 hP1 hD1 hS1 => ?_)
  rw [mv_rset] at hP1 hD1
  have e1 := mv_w_set (cA := cA) (ad := ad) (M := M) (c := .inr (ci, mv_u fs k0 v)) h2 h3
  rw [mv_e_o hci] at e1
  have hP2 : va_P D classes (mv_w cA ad (mv_p M o (.inr (ci, mv_u fs k0 v)))) H1 := e1 ▸ hP1
  have hD2 : va_D A (mv_w cA ad (mv_p M o (.inr (ci, mv_u fs k0 v)))) := e1 ▸ hD1
  exact k p l e R s m args below meth c D cA A Qr G ad ls H1 locs1 ⟨mv_wf_put S.1 (by omega) h3 hok, hP2, hD2, hS1, S.2.2.2.2.1, mv_X_put S.2.2.2.2.2.1 (by omega), S.2.2.2.2.2.2⟩ L (mx_c2 (mx_c2 hst)) hbu E
theorem mx_iald {a n : Nat} {f : Int → Int} {x : Int} (hd : decode md.2.1 pc = .ok (.iaload, 1)) (ha : M.2 a = .inl (n, f)) (h0 : 0 ≤ x) (hx : x < n) (k : mv_W md (pc + 1) lo (.inl (f x) :: st) M bu Q) : mv_W md pc lo (.inl x :: .inr a :: st) M bu Q := by
  intro p l e R s m args below meth c D cA A Qr G ad ls H locs S L hst hbu E
  obtain ⟨h2, h3⟩ := mv_liveA S.1 ha
  have hr : mv_r x := mx_c1 hst
  have e0 : (((mv_i x).toNatClampNeg : Nat) : Int) = x := by rw [mv_cl hr]; omega
  have hok : mv_ok M.1 (.inl (f x)) := by
    have := S.1.2.1 a
    rw [ha] at this
    exact this.2 x
  have hk := k p l e R s m args below meth c D cA A Qr G ad ls H locs S L (mx_cc hok (mx_c2 (mx_c2 hst))) hbu E
  rw [List.map_cons, List.map_cons, mv_tr (show a ≠ 0 by omega)]
  have hk2 : W p l e R s m args below meth c H locs bu.1 bu.2 Qr (F0 m (pc + 1) ls (Value.int (mv_i (f (((mv_i x).toNatClampNeg : Nat) : Int))) :: st.map (mv_t ad))) := by
    rw [e0]; exact hk
  by_cases h1 : a = 1
  · subst h1
    obtain ⟨L', f', g1, g2⟩ := S.2.2.2.2.2.1
    rw [ha] at g1
    cases g1
    exact va_sld G.1 G.2.1 g2 S.2.2.2.2.2.2.1 S.2.2.2.2.2.2.2 S.2.2.2.1 (mv_vin hr h0 hx) hd hk2
  · have he := mv_w_at (cA := cA) (ad := ad) (show 2 ≤ a by omega) h3
    rw [ha] at he
    exact va_iald (f := fun j => mv_i (f (j : Int))) G.1 G.2.1 G.2.2.2.2.2.2.1 S.2.1 (a - 2) 0 he rfl (mv_vin hr h0 hx) hd hk2
theorem mx_iast {a n : Nat} {f : Int → Int} {x y : Int} (hd : decode md.2.1 pc = .ok (.iastore, 1)) (ha : M.2 a = .inl (n, f)) (h1 : a ≠ 1) (h0 : 0 ≤ x) (hx : x < n) (k : mv_W md (pc + 1) lo st (mv_p M a (.inl (n, mv_s f x y))) bu Q) : mv_W md pc lo (.inl y :: .inl x :: .inr a :: st) M bu Q := by
  intro p l e R s m args below meth c D cA A Qr G ad ls H locs S L hst hbu E
  obtain ⟨h2, h3⟩ := mv_liveA S.1 ha
  have hr : mv_r x := mx_c1 (mx_c2 hst)
  have hy : mv_r y := mx_c1 hst
  have hok := S.1.2.1 a
  rw [ha] at hok
  have he := mv_w_at (cA := cA) (ad := ad) (show 2 ≤ a by omega) h3
  rw [ha] at he
  rw [List.map_cons, List.map_cons, List.map_cons, mv_tr (show a ≠ 0 by omega)]
  refine va_iast (f := fun j => mv_i (f (j : Int))) (x := mv_i y) G.1 G.2.1 G.2.2.2.2.2.2.1 S.2.1 S.2.2.1 S.2.2.2.1 (a - 2) 0 he rfl (mv_vin hr h0 hx) hd (fun H1 locs1 hP1 hD1 hS1 => ?_)
  have e0 : upd (fun j : Nat => mv_i (f (j : Int))) (mv_i x).toNatClampNeg (mv_i y) = fun j : Nat => mv_i (mv_s f x y (j : Int)) := by
    funext j
    rw [mv_cl hr]
    unfold upd mv_s
    by_cases hj : j = x.toNat
    · rw [if_pos hj, if_pos (by omega)]
    · rw [if_neg hj, if_neg (by omega)]
  rw [e0] at hP1 hD1
  have e1 := mv_w_set (cA := cA) (ad := ad) (M := M) (c := .inl (n, mv_s f x y)) (show 2 ≤ a by omega) h3
  have hP2 : va_P D classes (mv_w cA ad (mv_p M a (.inl (n, mv_s f x y)))) H1 := e1 ▸ hP1
  have hD2 : va_D A (mv_w cA ad (mv_p M a (.inl (n, mv_s f x y)))) := e1 ▸ hD1
  have hok2 : mv_okc M.1 (.inl (n, mv_s f x y)) := ⟨hok.1, fun j => by
    show mv_r (mv_s f x y j)
    unfold mv_s
    by_cases hj : j = x
    · rw [if_pos hj]; exact hy
    · rw [if_neg hj]; exact hok.2 j⟩
  exact k p l e R s m args below meth c D cA A Qr G ad ls H1 locs1 ⟨mv_wf_put S.1 (by omega) h3 hok2, hP2, hD2, hS1, S.2.2.2.2.1, mv_X_put S.2.2.2.2.2.1 (fun h => h1 h.symm), S.2.2.2.2.2.2⟩ L (mx_c2 (mx_c2 (mx_c2 hst))) hbu E
theorem mx_alen {a n : Nat} {f : Int → Int} (hd : decode md.2.1 pc = .ok (.arraylength, 1)) (ha : M.2 a = .inl (n, f)) (k : mv_W md (pc + 1) lo (.inl (n : Int) :: st) M bu Q) : mv_W md pc lo (.inr a :: st) M bu Q := by
  intro p l e R s m args below meth c D cA A Qr G ad ls H locs S L hst hbu E
  obtain ⟨h2, h3⟩ := mv_liveA S.1 ha
  have hok := S.1.2.1 a
  rw [ha] at hok
  have hn : n < 2147483648 := hok.1
  have hr : mv_r (n : Int) := by unfold mv_r; omega
  have hk := k p l e R s m args below meth c D cA A Qr G ad ls H locs S L (mx_cc hr (mx_c2 hst)) hbu E
  have e0 : Int32.ofNat n = mv_i (n : Int) := (Int32.ofInt_eq_ofNat).symm
  rw [List.map_cons, mv_tr (show a ≠ 0 by omega)]
  by_cases h1 : a = 1
  · subst h1
    obtain ⟨L', f', g1, g2⟩ := S.2.2.2.2.2.1
    rw [ha] at g1
    cases g1
    refine va_slen G.1 G.2.1 g2 S.2.2.2.2.2.2.1 S.2.2.2.2.2.2.2 S.2.2.2.1 hd ?_
    rw [e0]; exact hk
  · have he := mv_w_at (cA := cA) (ad := ad) (show 2 ≤ a by omega) h3
    rw [ha] at he
    exact va_alen (v := mv_i (n : Int)) G.1 G.2.1 G.2.2.2.2.2.2.1 S.2.1 (a - 2) 0 he rfl e0 hd hk
/-- a new array of ints -/
theorem mx_newa {x : Int} (hd : decode md.2.1 pc = .ok (.newarray .int, 2)) (hw : Cond.arrayClass .int ∈ mv_tb) (h0 : 0 ≤ x) (hx : x ≤ 100000) (hc1 : bu.1 + 1 ≤ md.2.2.2.2.cells) (hc2 : bu.2 + x.toNat ≤ md.2.2.2.2.slots)
    (k : mv_W md (pc + 2) lo (.inr M.1 :: st) (M.1 + 1, mv_u M.2 M.1 (.inl (x.toNat, fun _ => 0))) (bu.1 + 1, bu.2 + x.toNat) Q) : mv_W md pc lo (.inl x :: st) M bu Q := by
  intro p l e R s m args below meth c D cA A Qr G ad ls H locs S L hst hbu E
  have hr : mv_r x := mx_c1 hst
  have hR := G.2.2.2.2.2.2.2.1
  have hwf2 := S.1.1
  refine va_newa (ty := .int) (N' := x.toNat) (a0 := (x.toNat, .inl (fun j => mv_i ((fun _ => 0 : Int → Int) (j : Int))))) G.1 G.2.1 (atype := .int) (G.2.2.2.2.1 _ hw) rfl G.2.2.2.2.2.2.1 S.2.1 S.2.2.1 S.2.2.2.1 S.2.2.2.2.1 (fun cA' => by rw [vp_cell_i]; rfl) (n := mv_i x) ?_ (mv_cl hr) ?_ (by rw [hR]; exact hc1) (by rw [hR]; exact hc2) hd (fun q cA' H1 hK1 hP1 hD1 hS1 => ?_)
  · intro hlt
    rw [← mv_i0, mv_lt hr mv_r0] at hlt
    omega
  · show x.toNat * 4 ≤ 536870912
    omega
  · have hcA : cA' = cA.1 := by
      have a1 : s.vm.findClass ("[" ++ FieldType.int.toString) = some cA.1 := (hK1.2 0 (cA.1, .int) rfl).2
      have a2 : s.vm.findClass ("[" ++ FieldType.int.toString) = some cA' := (hK1.2 2 (cA', .int) rfl).2
      exact Option.some.inj (a2.symm.trans a1)
    subst hcA
    have had : ∀ j, j < M.1 → mv_u ad M.1 q j = ad j := fun j hj => mv_un (by omega)
    have e1 := mv_w_new (cA := cA) (ad := ad) S.1 (c := .inl (x.toNat, fun _ => 0)) (q := q) (e := .inl (cA.1, x.toNat, .inl (fun j => mv_i ((fun _ => 0 : Int → Int) (j : Int))))) rfl
    rw [e1] at hP1 hD1
    have hk := k p l e R s m args below meth c D cA A Qr G (mv_u ad M.1 q) ls H1 locs ⟨mv_wf_new S.1 ⟨by show x.toNat < _; omega, fun _ => mv_r0⟩, hP1, hD1, hS1, S.2.2.2.2.1, ?_, ?_⟩ (L.ad (Nat.le_succ _) had) (mx_cc (show M.1 < M.1 + 1 by omega) (fun v hv => mv_ok_up (Nat.le_succ _) (mx_c2 hst v hv))) ⟨by rw [hR]; exact hc1, by rw [hR]; exact hc2⟩ (E.up (Nat.le_succ _) had)
    · rw [List.map_cons, mv_tr (show M.1 ≠ 0 by omega), mv_us, mv_ts_ad had (mx_c2 hst)] at hk
      exact hk
    · obtain ⟨L', f', g1, g2⟩ := S.2.2.2.2.2.1
      refine ⟨L', f', ?_, by rw [had 1 (by omega)]; exact g2⟩
      show mv_u M.2 M.1 _ 1 = _
      rw [mv_un (by omega)]; exact g1
    · rw [had 1 (by omega)]; exact S.2.2.2.2.2.2
def mv_Nw (own : String) (ix ci : Nat) (df : Nat → mv_V) : Prop := ci < 4096 ∧ (∀ j, df j = .inl 0 ∨ df j = .inr 0) ∧ ∃ (C : String) (T : u_T) (N : Nat) (ty : Nat → FieldType), classes[ci]? = some (C, T, N) ∧ (∀ w ∈ u_ws C T N, w ∈ mv_tb) ∧ (∀ k, k < N → parseFieldDescriptor (T k).2.2.1 = some (ty k)) ∧ Cond.classLink own ix C ∈ mv_tb ∧ Cond.instantiable C N ∈ mv_tb ∧ Cond.initialized C ∈ mv_tb ∧ ∀ j, j < N → defaultValue (ty j) = mv_t (fun _ => 0) (df j)
/-- a new object -/
theorem mx_new {ix ci : Nat} {df : Nat → mv_V} (hd : decode md.2.1 pc = .ok (.new ix, 3)) (hw : mv_Nw md.1.cls ix ci df) (hc1 : bu.1 + 1 ≤ md.2.2.2.2.cells) (hc2 : bu.2 + mv_N ci ≤ md.2.2.2.2.slots)
    (k : mv_W md (pc + 3) lo (.inr M.1 :: st) (M.1 + 1, mv_u M.2 M.1 (.inr (ci, df))) (bu.1 + 1, bu.2 + mv_N ci) Q) : mv_W md pc lo st M bu Q := by
  intro p l e R s m args below meth c D cA A Qr G ad ls H locs S L hst hbu E
  obtain ⟨hci, hdf, C, T, N, ty, hc, hu, hty, hl, hin, hini, hdv⟩ := hw
  have hR := G.2.2.2.2.2.2.2.1
  have hwf2 := S.1.1
  have hN := mv_Nof hc
  have hdt : ∀ (ad : Nat → Nat) (j : Nat), mv_t ad (df j) = mv_t (fun _ => 0) (df j) := fun ad j => by
    rcases hdf j with h | h <;> rw [h] <;> rfl
  refine va_new (ci := ci) (fs := (List.range (mv_N ci)).map (fun k => mv_t ad (df k))) G.1 G.2.1 G.2.2.2.2.1 hu ty hty G.2.2.2.1 (G.2.2.2.2.1 _ hl) (G.2.2.2.2.1 _ hin) (G.2.2.2.2.1 _ hini) G.2.2.2.2.2.2.1 S.2.1 S.2.2.1 S.2.2.2.1 S.2.2.2.2.1 hc (fun j hj => ?_) (by rw [hR]; exact hc1) (by rw [hR, ← hN]; exact hc2) hd (fun q H1 hP1 hD1 hS1 => ?_)
  · unfold vp_V
    rw [List.getD_eq_getElem?_getD, List.getElem?_map, hN, List.getElem?_range hj, hdv j hj]
    show _ = mv_t ad (df j)
    rw [hdt ad j]
  · have had : ∀ j, j < M.1 → mv_u ad M.1 q j = ad j := fun j hj => mv_un (by omega)
    have e1 := mv_w_new (cA := cA) (ad := ad) S.1 (c := .inr (ci, df)) (q := q) (e := .inr (ci, (List.range (mv_N ci)).map (fun k => mv_t ad (df k)))) (by
      rw [mv_e_o hci]
      rw [List.map_congr_left (fun k _ => (hdt (mv_u ad M.1 q) k).trans (hdt ad k).symm)])
    rw [e1] at hP1 hD1
    have hk := k p l e R s m args below meth c D cA A Qr G (mv_u ad M.1 q) ls H1 locs ⟨mv_wf_new S.1 (fun j => by
        show mv_ok (M.1 + 1) (df j)
        rcases hdf j with h | h <;> rw [h]
        · exact mv_r0
        · show 0 < M.1 + 1; omega), hP1, hD1, hS1, S.2.2.2.2.1, ?_, ?_⟩ (L.ad (Nat.le_succ _) had) (mx_cc (show M.1 < M.1 + 1 by omega) (fun v hv => mv_ok_up (Nat.le_succ _) (hst v hv))) ⟨by rw [hR]; exact hc1, by rw [hR]; exact hc2⟩ (E.up (Nat.le_succ _) had)
    · rw [List.map_cons, mv_tr (show M.1 ≠ 0 by omega), mv_us, mv_ts_ad had hst] at hk
      rw [← hN]
      exact hk
    · obtain ⟨L', f', g1, g2⟩ := S.2.2.2.2.2.1
      refine ⟨L', f', ?_, by rw [had 1 (by omega)]; exact g2⟩
      show mv_u M.2 M.1 _ 1 = _
      rw [mv_un (by omega)]; exact g1
    · rw [had 1 (by omega)]; exact S.2.2.2.2.2.2
/-- rows of booleans -/
theorem mx_newz {x : Int} (hd : decode md.2.1 pc = .ok (.newarray .boolean, 2)) (hw : Cond.arrayClass .boolean ∈ mv_tb) (h0 : 0 ≤ x) (hx : x ≤ 100000) (hc1 : bu.1 + 1 ≤ md.2.2.2.2.cells) (hc2 : bu.2 + x.toNat ≤ md.2.2.2.2.slots)
    (k : mv_W md (pc + 2) lo (.inr M.1 :: st) (M.1 + 1, mv_u M.2 M.1 (.inr (5000 + x.toNat, fun _ => .inl 0))) (bu.1 + 1, bu.2 + x.toNat) Q) : mv_W md pc lo (.inl x :: st) M bu Q := by
  intro p l e R s m args below meth c D cA A Qr G ad ls H locs S L hst hbu E
  have hr : mv_r x := mx_c1 hst
  have hR := G.2.2.2.2.2.2.2.1
  have hwf2 := S.1.1
  refine va_newa (ty := .boolean) (N' := x.toNat) (a0 := (x.toNat, .inl (fun j => mv_b ((fun _ => .inl 0 : Nat → mv_V) j)))) G.1 G.2.1 (atype := .boolean) (G.2.2.2.2.1 _ hw) rfl G.2.2.2.2.2.2.1 S.2.1 S.2.2.1 S.2.2.2.1 S.2.2.2.2.1 (fun cA' => by rw [vp_cell_i]; rfl) (n := mv_i x) ?_ (mv_cl hr) ?_ (by rw [hR]; exact hc1) (by rw [hR]; exact hc2) hd (fun q cA' H1 hK1 hP1 hD1 hS1 => ?_)
  · intro hlt
    rw [← mv_i0, mv_lt hr mv_r0] at hlt
    omega
  · show x.toNat * 1 ≤ 536870912
    omega
  · have hcA : cA' = cA.2 := by
      have a1 : s.vm.findClass ("[" ++ FieldType.boolean.toString) = some cA.2 := (hK1.2 1 (cA.2, .boolean) rfl).2
      have a2 : s.vm.findClass ("[" ++ FieldType.boolean.toString) = some cA' := (hK1.2 2 (cA', .boolean) rfl).2
      exact Option.some.inj (a2.symm.trans a1)
    subst hcA
    have had : ∀ j, j < M.1 → mv_u ad M.1 q j = ad j := fun j hj => mv_un (by omega)
    have e1 := mv_w_new (cA := cA) (ad := ad) S.1 (c := .inr (5000 + x.toNat, fun _ => .inl 0)) (q := q) (e := .inl (cA.2, x.toNat, .inl (fun j => mv_b ((fun _ => .inl 0 : Nat → mv_V) j)))) mv_e_z
    rw [e1] at hP1 hD1
    have hk := k p l e R s m args below meth c D cA A Qr G (mv_u ad M.1 q) ls H1 locs ⟨mv_wf_new S.1 (fun _ => mv_r0), hP1, hD1, hS1, S.2.2.2.2.1, ?_, ?_⟩ (L.ad (Nat.le_succ _) had) (mx_cc (show M.1 < M.1 + 1 by omega) (fun v hv => mv_ok_up (Nat.le_succ _) (mx_c2 hst v hv))) ⟨by rw [hR]; exact hc1, by rw [hR]; exact hc2⟩ (E.up (Nat.le_succ _) had)
    · rw [List.map_cons, mv_tr (show M.1 ≠ 0 by omega), mv_us, mv_ts_ad had (mx_c2 hst)] at hk
      exact hk
    · obtain ⟨L', f', g1, g2⟩ := S.2.2.2.2.2.1
      refine ⟨L', f', ?_, by rw [had 1 (by omega)]; exact g2⟩
      show mv_u M.2 M.1 _ 1 = _
      rw [mv_un (by omega)]; exact g1
    · rw [had 1 (by omega)]; exact S.2.2.2.2.2.2
theorem mx_bald {a n : Nat} {fs : Nat → mv_V} {x y : Int} (hd : decode md.2.1 pc = .ok (.baload, 1)) (ha : M.2 a = .inr (5000 + n, fs)) (h0 : 0 ≤ x) (hx : x < n) (hy : fs x.toNat = .inl y) (k : mv_W md (pc + 1) lo (.inl y :: st) M bu Q) : mv_W md pc lo (.inl x :: .inr a :: st) M bu Q := by
  intro p l e R s m args below meth c D cA A Qr G ad ls H locs S L hst hbu E
  obtain ⟨h2, h3⟩ := mv_liveO S.1 S.2.2.2.2.2.1 ha (by omega)
  have hr : mv_r x := mx_c1 hst
  have hok : mv_ok M.1 (.inl y) := by
    have := S.1.2.1 a
    rw [ha] at this
    have h4 : mv_ok M.1 (fs x.toNat) := this x.toNat
    rw [hy] at h4
    exact h4
  have hk := k p l e R s m args below meth c D cA A Qr G ad ls H locs S L (mx_cc hok (mx_c2 (mx_c2 hst))) hbu E
  have he := mv_w_at (cA := cA) (ad := ad) h2 h3
  rw [ha, mv_e_z] at he
  rw [List.map_cons, List.map_cons, mv_tr (show a ≠ 0 by omega)]
  have hk2 : W p l e R s m args below meth c H locs bu.1 bu.2 Qr (F0 m (pc + 1) ls (Value.int (mv_b (fs (mv_i x).toNatClampNeg)) :: st.map (mv_t ad))) := by
    rw [mv_cl hr, hy]; exact hk
  exact va_zald (f := fun j => mv_b (fs j)) G.1 G.2.1 G.2.2.2.2.2.2.1 S.2.1 (a - 2) 1 he rfl (mv_vin hr h0 hx) hd hk2
theorem mx_bast {a n : Nat} {fs : Nat → mv_V} {x y : Int} (hd : decode md.2.1 pc = .ok (.bastore, 1)) (ha : M.2 a = .inr (5000 + n, fs)) (h0 : 0 ≤ x) (hx : x < n) (hy : y = 0 ∨ y = 1) (k : mv_W md (pc + 1) lo st (mv_p M a (.inr (5000 + n, mv_u fs x.toNat (.inl y)))) bu Q) : mv_W md pc lo (.inl y :: .inl x :: .inr a :: st) M bu Q := by
  intro p l e R s m args below meth c D cA A Qr G ad ls H locs S L hst hbu E
  obtain ⟨h2, h3⟩ := mv_liveO S.1 S.2.2.2.2.2.1 ha (by omega)
  have hr : mv_r x := mx_c1 (mx_c2 hst)
  have hok := S.1.2.1 a
  rw [ha] at hok
  have he := mv_w_at (cA := cA) (ad := ad) h2 h3
  rw [ha, mv_e_z] at he
  rw [List.map_cons, List.map_cons, List.map_cons, mv_tr (show a ≠ 0 by omega)]
  refine va_zast (f := fun j => mv_b (fs j)) (x := mv_i y) G.1 G.2.1 G.2.2.2.2.2.2.1 S.2.1 S.2.2.1 S.2.2.2.1 (a - 2) 1 he rfl (mv_vin hr h0 hx) hd (fun H1 locs1 hP1 hD1 hS1 => ?_)
  have e0 : upd (fun j : Nat => mv_b (fs j)) (mv_i x).toNatClampNeg (vp_nar .boolean (mv_i y)) = fun j : Nat => mv_b (mv_u fs x.toNat (.inl y) j) := by
    funext j
    rw [mv_cl hr]
    unfold upd
    by_cases hj : j = x.toNat
    · rw [if_pos hj, hj, mv_us]
      rcases hy with rfl | rfl <;> decide +kernel
    · rw [if_neg hj, mv_un hj]
  rw [e0] at hP1 hD1
  have e1 := mv_w_set (cA := cA) (ad := ad) (M := M) (c := .inr (5000 + n, mv_u fs x.toNat (.inl y))) h2 h3
  rw [mv_e_z] at e1
  have hP2 : va_P D classes (mv_w cA ad (mv_p M a (.inr (5000 + n, mv_u fs x.toNat (.inl y))))) H1 := e1 ▸ hP1
  have hD2 : va_D A (mv_w cA ad (mv_p M a (.inr (5000 + n, mv_u fs x.toNat (.inl y))))) := e1 ▸ hD1
  have hok2 : mv_okc M.1 (.inr (5000 + n, mv_u fs x.toNat (.inl y))) := fun j => by
    show mv_ok M.1 (mv_u fs x.toNat (.inl y) j)
    by_cases hj : j = x.toNat
    · rw [hj, mv_us]; exact mx_c1 hst
    · rw [mv_un hj]; exact hok j
  exact k p l e R s m args below meth c D cA A Qr G ad ls H1 locs1 ⟨mv_wf_put S.1 (by omega) h3 hok2, hP2, hD2, hS1, S.2.2.2.2.1, mv_X_put S.2.2.2.2.2.1 (by omega), S.2.2.2.2.2.2⟩ L (mx_c2 (mx_c2 (mx_c2 hst))) hbu E
end MH
end
section
/-! rows of the small machine for calls -/
section MM
variable {md : mv_D} {pc : Nat} {lo st : List mv_V} {M : mv_M} {bu : Nat × Nat} {Q : List mv_V → mv_M → Prop}
theorem mx_max {ix : Nat} {x y : Int} (hd : decode md.2.1 pc = .ok (.invokestatic ix, 3)) (hw : Cond.methodLink md.1.cls ix Lib.Math.max.name ∈ mv_tb ∧ Cond.static Lib.Math.max.name ∈ mv_tb ∧ Cond.initialized "java/lang/Math" ∈ mv_tb ∧ Cond.code Lib.Math.max.name Lib.Math.max.code 2 (some .int) ∈ mv_tb)
    (hfr : 1 ≤ md.2.2.2.2.frames) (hlo : st.length + 13 ≤ md.2.2.2.2.locals) (k : mv_W md (pc + 3) lo (.inl (max x y) :: st) M bu Q) : mv_W md pc lo (.inl y :: .inl x :: st) M bu Q := by
  intro p l e R s m args below meth c D cA A Qr G ad ls H locs S L hst hbu E
  have hR := G.2.2.2.2.2.2.2.1
  have hy : mv_r y := mx_c1 hst
  have hx : mv_r x := mx_c1 (mx_c2 hst)
  have hm : mv_r (max x y) := by unfold mv_r at *; omega
  have hk := k p l e R s m args below meth c D cA A Qr G ad ls H locs S L (mx_cc hm (mx_c2 (mx_c2 hst))) hbu E
  have hts := G.2.2.2.2.1
  refine va_mmax (x := mv_i x) (y := mv_i y) G.1 G.2.1 (by rw [G.2.2.1, L.size]) G.2.2.2.1 (hts _ hw.1) (hts _ hw.2.1) (hts _ hw.2.2.1) (hts _ hw.2.2.2) (by rw [hR]; exact hfr) (by rw [hR, mv_cats]; exact hlo) hbu.1 hbu.2 hd ?_
  rw [show (if mv_i x < mv_i y then mv_i y else mv_i x) = mv_i (max x y) by
    by_cases h : x < y
    · rw [if_pos ((mv_lt hx hy).mpr h), show max x y = y by omega]
    · rw [if_neg (fun q => h ((mv_lt hx hy).mp q)), show max x y = x by omega]]
  exact hk
theorem mx_min {ix : Nat} {x y : Int} (hd : decode md.2.1 pc = .ok (.invokestatic ix, 3)) (hw : Cond.methodLink md.1.cls ix Lib.Math.min.name ∈ mv_tb ∧ Cond.static Lib.Math.min.name ∈ mv_tb ∧ Cond.initialized "java/lang/Math" ∈ mv_tb ∧ Cond.code Lib.Math.min.name Lib.Math.min.code 2 (some .int) ∈ mv_tb)
    (hfr : 1 ≤ md.2.2.2.2.frames) (hlo : st.length + 13 ≤ md.2.2.2.2.locals) (k : mv_W md (pc + 3) lo (.inl (min x y) :: st) M bu Q) : mv_W md pc lo (.inl y :: .inl x :: st) M bu Q := by
  intro p l e R s m args below meth c D cA A Qr G ad ls H locs S L hst hbu E
  have hR := G.2.2.2.2.2.2.2.1
  have hy : mv_r y := mx_c1 hst
  have hx : mv_r x := mx_c1 (mx_c2 hst)
  have hm : mv_r (min x y) := by unfold mv_r at *; omega
  have hk := k p l e R s m args below meth c D cA A Qr G ad ls H locs S L (mx_cc hm (mx_c2 (mx_c2 hst))) hbu E
  have hts := G.2.2.2.2.1
  refine va_mmin (x := mv_i x) (y := mv_i y) G.1 G.2.1 (by rw [G.2.2.1, L.size]) G.2.2.2.1 (hts _ hw.1) (hts _ hw.2.1) (hts _ hw.2.2.1) (hts _ hw.2.2.2) (by rw [hR]; exact hfr) (by rw [hR, mv_cats]; exact hlo) hbu.1 hbu.2 hd ?_
  rw [show (if mv_i y < mv_i x then mv_i y else mv_i x) = mv_i (min x y) by
    by_cases h : y < x
    · rw [if_pos ((mv_lt hy hx).mpr h), show min x y = y by omega]
    · rw [if_neg (fun q => h ((mv_lt hy hx).mp q)), show min x y = x by omega]]
  exact hk
theorem mx_abs {ix : Nat} {x : Int} (hd : decode md.2.1 pc = .ok (.invokestatic ix, 3)) (hw : Cond.methodLink md.1.cls ix Lib.Math.abs.name ∈ mv_tb ∧ Cond.static Lib.Math.abs.name ∈ mv_tb ∧ Cond.initialized "java/lang/Math" ∈ mv_tb ∧ Cond.code Lib.Math.abs.name Lib.Math.abs.code 1 (some .int) ∈ mv_tb)
    (hfr : 1 ≤ md.2.2.2.2.frames) (hlo : st.length + 13 ≤ md.2.2.2.2.locals) (hr : mv_r (max x (-x))) (k : mv_W md (pc + 3) lo (.inl (max x (-x)) :: st) M bu Q) : mv_W md pc lo (.inl x :: st) M bu Q := by
  intro p l e R s m args below meth c D cA A Qr G ad ls H locs S L hst hbu E
  have hR := G.2.2.2.2.2.2.2.1
  have hx : mv_r x := mx_c1 hst
  have hk := k p l e R s m args below meth c D cA A Qr G ad ls H locs S L (mx_cc hr (mx_c2 hst)) hbu E
  have hts := G.2.2.2.2.1
  refine va_mabs (x := mv_i x) G.1 G.2.1 (by rw [G.2.2.1, L.size]) G.2.2.2.1 (hts _ hw.1) (hts _ hw.2.1) (hts _ hw.2.2.1) (hts _ hw.2.2.2) (by rw [hR]; exact hfr) (by rw [hR, mv_cats]; exact hlo) hbu.1 hbu.2 hd ?_
  rw [show (if 0 ≤ mv_i x then mv_i x else 0 - mv_i x) = mv_i (max x (-x)) by
    by_cases h : 0 ≤ x
    · rw [if_pos (by rw [← mv_i0]; exact (mv_le mv_r0 hx).mpr h), show max x (-x) = x by omega]
    · rw [if_neg (fun q => h ((mv_le mv_r0 hx).mp (by rw [mv_i0]; exact q))), show max x (-x) = 0 - x by omega, ← mv_i0]
      exact (Int32.ofInt_sub 0 x).symm]
  exact hk
/-- Object's constructor -/
theorem mx_obj {ix o : Nat} (hd : decode md.2.1 pc = .ok (.invokespecial ix, 3)) (hw : Cond.methodLink md.1.cls ix Lib.objectInit ∈ mv_tb ∧ Cond.instanceMethod Lib.objectInit ∈ mv_tb ∧ Cond.code Lib.objectInit ⟨#[0xb1]⟩ 1 none ∈ mv_tb)
    (ho : o ≠ 0) (hfr : 1 ≤ md.2.2.2.2.frames) (hlo : st.length + 12 ≤ md.2.2.2.2.locals) (k : mv_W md (pc + 3) lo st M bu Q) : mv_W md pc lo (.inr o :: st) M bu Q := by
  intro p l e R s m args below meth c D cA A Qr G ad ls H locs S L hst hbu E
  have hR := G.2.2.2.2.2.2.2.1
  have hk := k p l e R s m args below meth c D cA A Qr G ad ls H locs S L (mx_c2 hst) hbu E
  have hts := G.2.2.2.2.1
  rw [List.map_cons, mv_tr ho]
  exact W.objInit G.1 G.2.1 G.2.2.2.1 (hts _ hw.1) (hts _ hw.2.1) (hts _ hw.2.2) rfl (by rw [G.2.2.1]; exact L.size) rfl hd (by rw [hR]; exact hfr) (by rw [hR, mv_cats]; show 2 * 0 + _ + 12 ≤ _; omega) hk
end MM
/-- a call, whatever it answers -/
theorem mv_call {p : Program} {l : Launch} {e : Env} {R : Room} {s : State} {m : MethodId} {args : Array Value} {below : List Frame} {meth : Method} {c : Code} {H : Heap} {locs : List Loc} {cells slots : Nat} {Q : State → Prop} {pc : Nat} {ls : Array Slot} {rest st0 : List Value} {A0 A1 : Nat → Prop} {H0 : Heap} {mc ms : Nat} {free : Addr → Prop} {Qa : State → Outcome → State → Prop}
    (hr : va_Run p l e R s m args below meth c H locs cells slots mc ms (F0 m pc ls st0) rest Qa free) (hS : va_S A0 H0 H locs) (hf : ∀ q, free q → A0 q) (hF : ∀ st o t, Qa st o t → va_F A1 st t) (hA : ∀ q, q < H.size → A1 q → A0 q)
    (kk : ∀ (v : Option Value) (st₀ t : State) (H1 : Heap) (locs1 : List Loc), st₀.heap = H → t.heap = H1 → s.vm.Alike t.vm → Qa st₀ (.returned v) t → va_S A0 H0 H1 locs1 → W p l e R s m args below meth c H1 locs1 (cells + mc) (slots + ms) Q (F0 m (pc + 3) ls (v.toList ++ rest))) : W p l e R s m args below meth c H locs cells slots Q (F0 m pc ls st0) := by
  intro T hT X
  obtain ⟨v, st₀, t, T', L, h0, X', hL, e1, e2, hq, st⟩ := hr T hT X
  obtain ⟨hz, hk⟩ := hF _ _ _ hq
  rw [h0] at hz hk
  obtain ⟨t2, a1, b1⟩ := kk v st₀ t T'.heap (locs ++ L) h0 e1.symm (by rw [← e2]; exact X'.warmed.alike) hq
    ⟨Nat.le_trans hS.1 (by rw [e1]; exact hz), fun q h1 h2 => by rw [e1, hk q (Nat.lt_of_lt_of_le h1 hS.1) (fun z => h2 (hA q (Nat.lt_of_lt_of_le h1 hS.1) z))]; exact hS.2.1 q h1 h2, fun q hq' => by
      rcases List.mem_append.mp hq' with h | h
      · exact hS.2.2 q h
      · exact hf _ (hL q h)⟩ T' rfl X'
  exact ⟨t2, st t2 a1, b1⟩
def mv_B (D : va_G) (cA : ClassId × ClassId) (ad : Nat → Nat) (M : mv_M) (U : State) : Prop :=
  va_P D classes (mv_w cA ad M) U.heap ∧ va_K D classes [(cA.1, .int), (cA.2, .boolean)] U ∧ va_D (fun _ => True) (mv_w cA ad M) ∧ mv_X ad M U U.heap ∧ ad 1 < U.heap.size ∧ (∀ k, 2 ≤ k → k < M.1 → ad k ≠ ad 1) ∧ mv_nw U
def mv_Q (D : va_G) (cA : ClassId × ClassId) (ad : Nat → Nat) (M : mv_M) (sz : Nat) (Q : List mv_V → mv_M → Prop) : Array Value → State → Outcome → State → Prop := fun _ st oc t =>
  (∃ (r : List mv_V) (M' : mv_M) (ad' : Nat → Nat), oc = .returned ((r.map (mv_t ad')).head?) ∧ r.length ≤ 1 ∧ Q r M' ∧ M.1 ≤ M'.1 ∧ (∀ k, k < M.1 → ad' k = ad k) ∧ mv_wf M' ∧ (∀ v ∈ r, mv_ok M'.1 v) ∧ va_P D classes (mv_w cA ad' M') t.heap ∧ va_D (va_A (mv_w cA ad M) sz) (mv_w cA ad' M') ∧ mv_X ad' M' t st.heap) ∧ va_F (va_A (mv_w cA ad M) sz) st t
/-- the method md, called with these over the memory M, ends with Q -/
def mv_J (md : mv_D) (vs : List mv_V) (M : mv_M) (Q : List mv_V → mv_M → Prop) : Prop :=
  ∀ (l : Launch) (D : va_G) (cA : ClassId × ClassId) (ad : Nat → Nat) (sz : Nat), mv_wf M → (∀ v ∈ vs, mv_ok M.1 v) →
    Met l md.1 (Cond.code md.1 md.2.1 md.2.2.1 md.2.2.2.1 :: mv_tb) md.2.2.2.2 (va_Pc (vs.map (mv_t ad)) (fun U => U.heap.size = sz ∧ mv_B D cA ad M U)) (mv_Q D cA ad M sz Q) md.2.2.2.2.cells md.2.2.2.2.slots (va_A (mv_w cA ad M) sz)
theorem mv_sl (ad : Nat → Nat) (vs : List mv_V) : (lg_sl (vs.map (mv_t ad))).length = vs.length := by
  induction vs with
  | nil => rfl
  | cons v vs ih =>
    have hc : ¬ (mv_t ad v).category = 2 := by rw [mv_cat]; decide
    have h1 : lg_sl ((v :: vs).map (mv_t ad)) = [Slot.val (mv_t ad v)] ++ lg_sl (vs.map (mv_t ad)) := by
      unfold lg_sl
      rw [List.map_cons, List.flatMap_cons, if_neg hc]
    rw [h1, List.length_append, ih]
    simp only [List.length_cons, List.length_nil]
    omega
theorem mv_args (ad : Nat → Nat) (vs : List mv_V) : ∀ (i k : Nat) (v : mv_V), vs[k]? = some v → (i + k, mv_t ad v) ∈ lv_args i (vs.map (mv_t ad)) := by
  induction vs with
  | nil => intro i k v h; simp at h
  | cons w vs ih =>
    intro i k v h
    have hc : ¬ (mv_t ad w).category = 2 := by rw [mv_cat]; decide
    have h1 : lv_args i ((w :: vs).map (mv_t ad)) = (i, mv_t ad w) :: lv_args (i + 1) (vs.map (mv_t ad)) := by
      rw [List.map_cons, lv_args, if_neg hc]
    rw [h1]
    cases k with
    | zero =>
      rw [List.getElem?_cons_zero] at h
      rw [Option.some.inj h]
      exact List.mem_cons_self
    | succ k =>
      rw [List.getElem?_cons_succ] at h
      have := ih (i + 1) k v h
      rw [show i + 1 + k = i + (k + 1) by omega] at this
      exact List.mem_cons_of_mem _ this
def mv_ent (md : mv_D) (vs : List mv_V) : List mv_V := vs ++ List.replicate (md.2.2.1 - vs.length) (.inr 0)
set_option maxHeartbeats 1000000 in
/-- a method is what its walk is -/
theorem mv_enter {md : mv_D} {vs : List mv_V} {M : mv_M} {Q : List mv_V → mv_M → Prop} (hpl : plainName md.1.cls = true) (hlen : vs.length ≤ md.2.2.1) (k : mv_W md 0 (mv_ent md vs) [] M (0, 0) Q) : mv_J md vs M Q := by
  intro l D cA ad sz hwf hvs
  refine Met.ofW (cc := md.2.1) (maxL := md.2.2.1) (ret := md.2.2.2.1) hpl rfl ?_
  intro p e s m args below meth c s₁ B hml hv
  obtain ⟨rfl, hsz, hP, hK, hD0, hX, hb1, hne, hnw⟩ := hv
  have hx := B.exec
  have hb := B.bytes
  have hr := B.returns
  have hts0 := atoms_spec (ws := Cond.code md.1 md.2.1 md.2.2.1 md.2.2.2.1 :: mv_tb) B.pre
  have hts : ∀ w ∈ mv_tb, w.before (vs.map (mv_t ad)).toArray s = true := fun w hw => hts0 w (List.mem_cons_of_mem _ hw)
  have hown : s.vm.findClass md.1.cls = some m.cls := findClass_of_methodNamed B.named
  have hlocks := B.notSynchronized
  have hin : meth.name = md.1.name := (name_of_methodNamed B.named B.method).1
  subst hsz
  have hD : va_D (va_A (mv_w cA ad M) s.heap.size) (mv_w cA ad M) := hD0.self (sz := s.heap.size)
  have hnA : ¬ va_A (mv_w cA ad M) s.heap.size (ad 1) := by
    rintro (⟨j, e', hj⟩ | h)
    · obtain ⟨k', -, g2, g3, g4⟩ := mv_w_of hj
      exact hne k' g2 g3 (Prod.mk.inj g4).1.symm
    · omega
  have hl := lv_entry (vs.map (mv_t ad)) (n := md.2.2.1) (by rw [mv_sl]; exact hlen)
  rw [lg_entry_eq]
  generalize (lg_sl (vs.map (mv_t ad)) ++ List.replicate (md.2.2.1 - (lg_sl (vs.map (mv_t ad))).length) Slot.unset).toArray = ls at hl ⊢
  have hL : mv_L md.2.2.1 ad M.1 ls (mv_ent md vs) := by
    refine ⟨⟨_, hl, fun j v hj hv => ?_⟩, by unfold mv_ent; rw [List.length_append, List.length_replicate]; omega, fun v hv => ?_⟩
    · unfold mv_ent at hj
      rw [List.getElem?_append] at hj
      by_cases hjl : j < vs.length
      · rw [if_pos hjl] at hj
        have := mv_args ad vs 0 j v hj
        rw [Nat.zero_add] at this
        exact this
      · rw [if_neg hjl] at hj
        exact absurd (List.eq_of_mem_replicate (List.mem_of_getElem? hj)) hv
    · rcases List.mem_append.mp hv with h | h
      · exact hvs v h
      · rw [List.eq_of_mem_replicate h]
        show 0 < M.1
        have := hwf.1
        omega
  refine k p l e _ s m _ below meth c D cA (va_A (mv_w cA ad M) s.heap.size) _ ⟨hx, hb, hml, hown, hts, hin, hK, rfl, hnw⟩ ad ls s.heap [] ⟨hwf, hP, hD, va_S.rf, fun q h => Or.inr h, hX, hb1, hnA⟩ hL (fun v hv => absurd hv List.not_mem_nil) ⟨Nat.zero_le _, Nat.zero_le _⟩ ?_
  intro r M' ad' ls' H' locs' k1 k2 pc' hQ hn had hS' hr' h1 h2 hrt
  refine W.widen (k := md.2.2.2.2.cells) (n := md.2.2.2.2.slots) h1 h2 ?_
  have hXt : ∀ t : State, s.WarmedH t.vm → mv_X ad' M' t s.heap := fun t hW => by
    obtain ⟨L', f', g1, g2⟩ := hS'.2.2.2.2.2.1
    exact ⟨L', f', g1, g2.moved hW.alike⟩
  rcases hrt with ⟨rfl, hret, hdec⟩ | ⟨x, ty, rfl, hret, hnar, hdec⟩
  · exact W.vret hx hb (hr.trans hret) (fun t ht hW => ⟨⟨[], M', ad', rfl, Nat.zero_le _, hQ, hn, had, hS'.1, hr', by rw [ht]; exact hS'.2.1, hS'.2.2.1, hXt t hW⟩, hS'.2.2.2.1.F ht⟩) hS'.2.2.2.1.2.2 hdec
  · exact W.zret (v := mv_i x) hx hb (hr.trans hret) hnar (fun t ht hW => ⟨⟨[.inl x], M', ad', rfl, Nat.le_refl _, hQ, hn, had, hS'.1, hr', by rw [ht]; exact hS'.2.1, hS'.2.2.1, hXt t hW⟩, hS'.2.2.2.1.F ht⟩) hS'.2.2.2.1.2.2 hdec
def mv_Md (md : mv_D) : Prop := GoodIn mv_tb (Cond.code md.1 md.2.1 md.2.2.1 md.2.2.2.1 :: mv_tb) ∧ Cond.initialized md.1.cls ∈ mv_tb ∧ md.1.cls ≠ "java/lang/invoke/MethodHandle" ∧ md.1.cls ≠ "java/lang/invoke/VarHandle"
abbrev mv_fit (md md' : mv_D) : Prop := md'.2.2.2.2.frames + 1 ≤ md.2.2.2.2.frames ∧ 8 + (md'.2.2.1 + 11) + md'.2.2.2.2.locals ≤ md.2.2.2.2.locals
section MC
variable {md : mv_D} {pc : Nat} {lo st : List mv_V} {M : mv_M} {bu : Nat × Nat} {Q : List mv_V → mv_M → Prop}
theorem mv_after {md' : mv_D} {stk : List mv_V} {a : Array Value} {p : Program} {l : Launch} {e : Env} {R : Room} {s : State} {m : MethodId} {args : Array Value} {below : List Frame} {meth : Method} {c : Code} {D : va_G} {cA : ClassId × ClassId} {A : Nat → Prop} {Qr : State → Prop} (G : mv_G md D cA p R s m args meth c) {ad : Nat → Nat} {ls : Array Slot} {H : Heap} {locs : List Loc} (S : mv_S D cA A s ad M H locs) (L : mv_L md.2.2.1 ad M.1 ls lo) (hst : ∀ v ∈ st, mv_ok M.1 v) (E : mv_E md D cA A p l e R s m args below meth c Qr ad M.1 Q)
    (hbu : bu.1 + md'.2.2.2.2.cells ≤ md.2.2.2.2.cells ∧ bu.2 + md'.2.2.2.2.slots ≤ md.2.2.2.2.slots)
    (hrun : va_Run p l e R s m args below meth c H locs bu.1 bu.2 md'.2.2.2.2.cells md'.2.2.2.2.slots (F0 m pc ls (stk.map (mv_t ad))) (st.map (mv_t ad)) (mv_Q D cA ad M H.size (fun r M' => mv_W md (pc + 3) lo (r ++ st) M' (bu.1 + md'.2.2.2.2.cells, bu.2 + md'.2.2.2.2.slots) Q) a) (va_A (mv_w cA ad M) H.size)) :
    W p l e R s m args below meth c H locs bu.1 bu.2 Qr (F0 m pc ls (stk.map (mv_t ad))) := by
  have hR := G.2.2.2.2.2.2.2.1
  have hfree : ∀ q, va_A (mv_w cA ad M) H.size q → A q := by
    rintro q (⟨j, e', hj⟩ | h)
    · exact S.2.2.1.2 j (q, e') hj
    · exact S.2.2.2.2.1 q (Nat.le_trans S.2.2.2.1.1 h)
  refine mv_call hrun S.2.2.2.1 hfree (fun _ _ _ h => h.2) (fun q _ h => hfree q h) (fun v st₀ t H1 locs1 h0 h1 hal hq hS1 => ?_)
  obtain ⟨⟨r, M', ad', hv, hlen, hQ, hn, had, hwf, hr, hP, hD, hX⟩, hF⟩ := hq
  have h2 := S.1.1
  have had1 : ad' 1 = ad 1 := had 1 (by omega)
  have hS' : mv_S D cA A s ad' M' H1 locs1 := by
    refine ⟨hwf, by rw [← h1]; exact hP, ⟨hD.1, fun j q hj => hfree _ (hD.2 j q hj)⟩, hS1, S.2.2.2.2.1, ?_, by rw [had1]; exact S.2.2.2.2.2.2.1, by rw [had1]; exact S.2.2.2.2.2.2.2⟩
    obtain ⟨L', f', g1, g2⟩ := hX
    rw [h0, had1] at g2
    refine ⟨L', f', g1, ?_⟩
    rw [had1]
    exact (g2.moved hal.symm).kept (S.2.2.2.1.2.1 (ad 1) S.2.2.2.2.2.2.1 S.2.2.2.2.2.2.2).symm
  have hk := hQ p l e R s m args below meth c D cA A Qr G ad' ls H1 locs1 hS' (L.ad hn had) (fun v hv => by
    rcases List.mem_append.mp hv with h | h
    · exact hr v h
    · exact mv_ok_up hn (hst v h)) ⟨by rw [hR]; exact hbu.1, by rw [hR]; exact hbu.2⟩ (E.up hn had)
  rw [List.map_append, mv_ts_ad had hst] at hk
  have hv2 : v.toList = r.map (mv_t ad') := by
    have hv' : v = (r.map (mv_t ad')).head? := by
      injection hv
    rw [hv']
    match r, hlen with
    | [], _ => rfl
    | [x], _ => rfl
  rw [hv2]
  exact hk
theorem mv_blind {D : va_G} {cA : ClassId × ClassId} {ad : Nat → Nat} {sz : Nat} {vs : List Value} : FrameBlind (va_Pc vs (fun U => U.heap.size = sz ∧ mv_B D cA ad M U)) := by
  intro a U g mk q
  obtain ⟨q0, q1, qP, qK, qD, qX, qr, qr2, qn⟩ := q
  refine ⟨q0, q1, qP, va_K.moved (u := U) (U := U.calling g mk a) (Vm.Alike.refl U.vm) qK, qD, ?_, qr, qr2, fun z hz => va_Nw.same rfl (rfl : U.vm = (U.calling g mk a).vm) (qn z hz)⟩
  obtain ⟨L', f', g1, g2⟩ := qX
  exact ⟨L', f', g1, va_X.moved (u := U) (U := U.calling g mk a) (Vm.Alike.refl U.vm) g2⟩
theorem mv_pre {p : Program} {R : Room} {s : State} {m : MethodId} {args : Array Value} {meth : Method} {c : Code} {D : va_G} {cA : ClassId × ClassId} {A : Nat → Prop} (G : mv_G md D cA p R s m args meth c) {ad : Nat → Nat} {H : Heap} {locs : List Loc} (S : mv_S D cA A s ad M H locs) (U : State) (hU : U.heap = H) (hW : s.WarmedH U.vm) : U.heap.size = H.size ∧ mv_B D cA ad M U := by
  have hs := S.2.2.2.1
  refine ⟨by rw [hU], by rw [hU]; exact S.2.1, va_K.moved hW.alike G.2.2.2.2.2.2.1, ⟨S.2.2.1.1, fun _ _ _ => trivial⟩, ?_, by rw [hU]; exact Nat.lt_of_lt_of_le S.2.2.2.2.2.2.1 hs.1, fun k h1 h2 he => ?_, fun z hz => va_Nw.warmM hW (G.2.2.2.2.2.2.2.2 z hz)⟩
  · obtain ⟨L', f', g1, g2⟩ := S.2.2.2.2.2.1
    rw [hU]
    exact ⟨L', f', g1, (g2.kept (hs.2.1 (ad 1) S.2.2.2.2.2.2.1 S.2.2.2.2.2.2.2)).moved hW.alike⟩
  · have := S.2.2.1.2 _ _ (mv_w_at (cA := cA) (ad := ad) h1 h2)
    exact S.2.2.2.2.2.2.2 (by rw [← he]; exact this)
/-- a method of an object -/
def mv_cV (own : String) (ix : Nat) (md' : mv_D) : Prop := mv_Md md' ∧ Cond.methodLink own ix md'.1 ∈ mv_tb ∧ Cond.instanceMethod md'.1 ∈ mv_tb ∧ Cond.selects md'.1.cls md'.1 md'.1 ∈ mv_tb
theorem mx_callV {md' : mv_D} {as : List mv_V} {o ci ix : Nat} {fs : Nat → mv_V} {T : u_T} {N : Nat} {stk : List mv_V} (hd : decode md.2.1 pc = .ok (.invokevirtual ix, 3)) (hw : mv_cV md.1.cls ix md') (hn : (parseMethodDescriptor md'.1.desc).map (fun d => d.parameters.length) = some as.length)
    (hfit : mv_fit md md') (hbu : bu.1 + md'.2.2.2.2.cells ≤ md.2.2.2.2.cells ∧ bu.2 + md'.2.2.2.2.slots ≤ md.2.2.2.2.slots) (ho : M.2 o = .inr (ci, fs)) (hci : ci < 4096) (hc : classes[ci]? = some (md'.1.cls, T, N)) (hs : stk = as.reverse ++ .inr o :: st) (h8 : st.length ≤ 8)
    (k : mv_J md' (.inr o :: as) M (fun r M' => mv_W md (pc + 3) lo (r ++ st) M' (bu.1 + md'.2.2.2.2.cells, bu.2 + md'.2.2.2.2.slots) Q)) : mv_W md pc lo stk M bu Q := by
  intro p l e R s m args below meth c D cA A Qr G ad ls H locs S L hst hb E
  subst hs
  have hR := G.2.2.2.2.2.2.2.1
  have hts := G.2.2.2.2.1
  obtain ⟨⟨w1, w2, w3, w4⟩, w5, w6, w7⟩ := hw
  obtain ⟨h2, h3⟩ := mv_liveO S.1 S.2.2.2.2.2.1 ho (by omega)
  have he := mv_w_at (cA := cA) (ad := ad) h2 h3
  rw [ho, mv_e_o hci] at he
  have hst2 : ∀ v ∈ st, mv_ok M.1 v := fun v hv => hst v (List.mem_append_right _ (List.mem_cons_of_mem _ hv))
  have hargs : ∀ v ∈ (.inr o :: as : List mv_V), mv_ok M.1 v := fun v hv => by
    rcases List.mem_cons.mp hv with rfl | h
    · exact h3
    · exact hst v (List.mem_append_left _ (List.mem_reverse.mpr h))
  have htr : mv_t ad (.inr o) = .ref (ad o) := mv_tr (by omega)
  have hM := k l D cA ad H.size S.1 hargs
  rw [List.map_cons, htr] at hM
  refine mv_after (md' := md') (stk := as.reverse ++ .inr o :: st) (a := (Value.ref (ad o) :: as.map (mv_t ad)).toArray) G S L hst2 E hbu ?_
  exact va_runV (rest := st.map (mv_t ad)) (As := as.map (mv_t ad)) ⟨G.1, G.2.1, G.2.2.1, G.2.2.2.1, hts⟩ hM ⟨callB_of as.length hts w1 rfl rfl rfl (hts _ w2) (hts _ w5) ⟨w3, w4, hn⟩ ⟨by rw [hR]; exact hfit.1, by rw [hR]; exact hfit.2⟩, hts _ w6, hts _ w7⟩
    ⟨mv_blind, va_recv G.2.2.2.2.2.2.1 S.2.1 hc he, fun U hU hW => ⟨rfl, mv_pre G S U hU hW⟩⟩ rfl (by rw [List.length_map]) L.size (by
      show (as.reverse ++ .inr o :: st).map (mv_t ad) = _
      rw [List.map_append, List.map_reverse, List.map_cons, htr]) (by
      show 2 * 0 + _ ≤ 8
      rw [mv_cats]; omega) hd ⟨by rw [hR]; exact hbu.1, by rw [hR]; exact hbu.2⟩
/-- a method of a class -/
def mv_cS (own : String) (ix : Nat) (md' : mv_D) : Prop := mv_Md md' ∧ Cond.methodLink own ix md'.1 ∈ mv_tb ∧ Cond.static md'.1 ∈ mv_tb
theorem mx_callS {md' : mv_D} {as : List mv_V} {ix : Nat} {stk : List mv_V} (hd : decode md.2.1 pc = .ok (.invokestatic ix, 3)) (hw : mv_cS md.1.cls ix md') (hn : (parseMethodDescriptor md'.1.desc).map (fun d => d.parameters.length) = some as.length)
    (hfit : mv_fit md md') (hbu : bu.1 + md'.2.2.2.2.cells ≤ md.2.2.2.2.cells ∧ bu.2 + md'.2.2.2.2.slots ≤ md.2.2.2.2.slots) (hs : stk = as.reverse ++ st) (h8 : st.length ≤ 8)
    (k : mv_J md' as M (fun r M' => mv_W md (pc + 3) lo (r ++ st) M' (bu.1 + md'.2.2.2.2.cells, bu.2 + md'.2.2.2.2.slots) Q)) : mv_W md pc lo stk M bu Q := by
  intro p l e R s m args below meth c D cA A Qr G ad ls H locs S L hst hb E
  subst hs
  have hR := G.2.2.2.2.2.2.2.1
  have hts := G.2.2.2.2.1
  obtain ⟨⟨w1, w2, w3, w4⟩, w5, w6⟩ := hw
  have hst2 : ∀ v ∈ st, mv_ok M.1 v := fun v hv => hst v (List.mem_append_right _ hv)
  have hargs : ∀ v ∈ as, mv_ok M.1 v := fun v hv => hst v (List.mem_append_left _ (List.mem_reverse.mpr hv))
  have hM := k l D cA ad H.size S.1 hargs
  refine mv_after (md' := md') (stk := as.reverse ++ st) (a := (as.map (mv_t ad)).toArray) G S L hst2 E hbu ?_
  exact va_runS (rest := st.map (mv_t ad)) (As := as.map (mv_t ad)) ⟨G.1, G.2.1, G.2.2.1, G.2.2.2.1, hts⟩ hM ⟨callB_of as.length hts w1 rfl rfl rfl (hts _ w2) (hts _ w5) ⟨w3, w4, hn⟩ ⟨by rw [hR]; exact hfit.1, by rw [hR]; exact hfit.2⟩, hts _ w6⟩
    ⟨mv_blind, fun U hU hW => ⟨rfl, mv_pre G S U hU hW⟩⟩ rfl (by rw [List.length_map]) L.size (by
      show (as.reverse ++ st).map (mv_t ad) = _
      rw [List.map_append, List.map_reverse]) (by
      show 2 * 0 + _ ≤ 8
      rw [mv_cats]; omega) hd ⟨by rw [hR]; exact hbu.1, by rw [hR]; exact hbu.2⟩
/-- a constructor -/
def mv_cI (own : String) (ix : Nat) (md' : mv_D) : Prop := mv_Md md' ∧ Cond.methodLink own ix md'.1 ∈ mv_tb ∧ Cond.instanceMethod md'.1 ∈ mv_tb ∧ md'.1.name = "<init>" ∧ md'.2.2.2.1 = none
theorem mx_callI {md' : mv_D} {as : List mv_V} {o ix : Nat} {stk : List mv_V} (hd : decode md.2.1 pc = .ok (.invokespecial ix, 3)) (hw : mv_cI md.1.cls ix md') (hn : (parseMethodDescriptor md'.1.desc).map (fun d => d.parameters.length) = some as.length)
    (hfit : mv_fit md md') (hbu : bu.1 + md'.2.2.2.2.cells ≤ md.2.2.2.2.cells ∧ bu.2 + md'.2.2.2.2.slots ≤ md.2.2.2.2.slots) (ho : o ≠ 0) (hs : stk = as.reverse ++ .inr o :: st) (h8 : st.length ≤ 8)
    (k : mv_J md' (.inr o :: as) M (fun r M' => mv_W md (pc + 3) lo (r ++ st) M' (bu.1 + md'.2.2.2.2.cells, bu.2 + md'.2.2.2.2.slots) Q)) : mv_W md pc lo stk M bu Q := by
  intro p l e R s m args below meth c D cA A Qr G ad ls H locs S L hst hb E
  subst hs
  have hR := G.2.2.2.2.2.2.2.1
  have hts := G.2.2.2.2.1
  obtain ⟨⟨w1, w2, w3, w4⟩, w5, w6, w7, w8⟩ := hw
  have hst2 : ∀ v ∈ st, mv_ok M.1 v := fun v hv => hst v (List.mem_append_right _ (List.mem_cons_of_mem _ hv))
  have hargs : ∀ v ∈ (.inr o :: as : List mv_V), mv_ok M.1 v := fun v hv => by
    rcases List.mem_cons.mp hv with rfl | h
    · exact hst _ (List.mem_append_right _ List.mem_cons_self)
    · exact hst v (List.mem_append_left _ (List.mem_reverse.mpr h))
  have htr : mv_t ad (.inr o) = .ref (ad o) := mv_tr ho
  have hM := k l D cA ad H.size S.1 hargs
  rw [List.map_cons, htr] at hM
  rw [w8] at hM w1
  refine mv_after (md' := md') (stk := as.reverse ++ .inr o :: st) (a := (Value.ref (ad o) :: as.map (mv_t ad)).toArray) G S L hst2 E hbu ?_
  exact va_runI (rest := st.map (mv_t ad)) (As := as.map (mv_t ad)) ⟨G.1, G.2.1, G.2.2.1, G.2.2.2.1, hts⟩ hM ⟨callB_of as.length hts w1 rfl rfl rfl (hts _ w2) (hts _ w5) ⟨w3, w4, hn⟩ ⟨by rw [hR]; exact hfit.1, by rw [hR]; exact hfit.2⟩, w7, hts _ w6⟩
    ⟨mv_blind, fun U hU hW => ⟨rfl, mv_pre G S U hU hW⟩⟩ rfl (by rw [List.length_map]) L.size (by
      show (as.reverse ++ .inr o :: st).map (mv_t ad) = _
      rw [List.map_append, List.map_reverse, List.map_cons, htr]) (by
      show 2 * 0 + _ ≤ 8
      rw [mv_cats]; omega) hd ⟨by rw [hR]; exact hbu.1, by rw [hR]; exact hbu.2⟩
/-- a private constructor of a nest mate -/
def mv_cN (own : String) (ix : Nat) (md' : mv_D) : Prop := mv_Md md' ∧ (∃ host : String, (own, ix, md'.1, host) ∈ mv_ne) ∧ Cond.instanceMethod md'.1 ∈ mv_tb ∧ md'.1.name = "<init>" ∧ md'.2.2.2.1 = none
theorem mx_callN {md' : mv_D} {as : List mv_V} {o ix : Nat} {stk : List mv_V} (hd : decode md.2.1 pc = .ok (.invokespecial ix, 3)) (hw : mv_cN md.1.cls ix md') (hn : (parseMethodDescriptor md'.1.desc).map (fun d => d.parameters.length) = some as.length)
    (hfit : mv_fit md md') (hbu : bu.1 + md'.2.2.2.2.cells ≤ md.2.2.2.2.cells ∧ bu.2 + md'.2.2.2.2.slots ≤ md.2.2.2.2.slots) (ho : o ≠ 0) (hs : stk = as.reverse ++ .inr o :: st) (h8 : st.length ≤ 8)
    (k : mv_J md' (.inr o :: as) M (fun r M' => mv_W md (pc + 3) lo (r ++ st) M' (bu.1 + md'.2.2.2.2.cells, bu.2 + md'.2.2.2.2.slots) Q)) : mv_W md pc lo stk M bu Q := by
  intro p l e R s m args below meth c D cA A Qr G ad ls H locs S L hst hb E
  subst hs
  have hR := G.2.2.2.2.2.2.2.1
  have hts := G.2.2.2.2.1
  obtain ⟨⟨w1, w2, w3, w4⟩, ⟨host, w5⟩, w6, w7, w8⟩ := hw
  have hst2 : ∀ v ∈ st, mv_ok M.1 v := fun v hv => hst v (List.mem_append_right _ (List.mem_cons_of_mem _ hv))
  have hargs : ∀ v ∈ (.inr o :: as : List mv_V), mv_ok M.1 v := fun v hv => by
    rcases List.mem_cons.mp hv with rfl | h
    · exact hst _ (List.mem_append_right _ List.mem_cons_self)
    · exact hst v (List.mem_append_left _ (List.mem_reverse.mpr h))
  have htr : mv_t ad (.inr o) = .ref (ad o) := mv_tr ho
  have hM := k l D cA ad H.size S.1 hargs
  rw [List.map_cons, htr] at hM
  rw [w8] at hM w1
  refine mv_after (md' := md') (stk := as.reverse ++ .inr o :: st) (a := (Value.ref (ad o) :: as.map (mv_t ad)).toArray) G S L hst2 E hbu ?_
  exact va_runIN (host := host) (rest := st.map (mv_t ad)) (As := as.map (mv_t ad)) ⟨G.1, G.2.1, G.2.2.1, G.2.2.2.1, hts⟩ hM ⟨⟨⟨rfl, rfl, by rw [hR]; exact hfit.1, by rw [hR]; exact hfit.2, pay_in hts w1, List.mem_cons_self⟩, hts _ (w1 _ List.mem_cons_self).1, hts _ w2, ⟨w3, w4⟩, fun sig h => (by rw [h] at hn; exact (Option.some.inj hn).symm), va_Nw.use rfl (G.2.2.2.2.2.2.2.2 _ w5)⟩, w7, hts _ w6⟩
    ⟨mv_blind, fun U hU hW => ⟨rfl, mv_pre G S U hU hW⟩⟩ rfl (by rw [List.length_map]) L.size (by
      show (as.reverse ++ .inr o :: st).map (mv_t ad) = _
      rw [List.map_append, List.map_reverse, List.map_cons, htr]) (by
      show 2 * 0 + _ ≤ 8
      rw [mv_cats]; omega) hd ⟨by rw [hR]; exact hbu.1, by rw [hR]; exact hbu.2⟩
end MC
end
section
/-! rows of the small machine in their short forms -/
def mv_l : List mv_V → Nat → mv_V
  | [], _ => .inr 0
  | v :: _, 0 => v
  | _ :: vs, k + 1 => mv_l vs k
theorem mv_lg : ∀ {vs : List mv_V} {k : Nat} {v : mv_V}, vs[k]? = some v → mv_l vs k = v := by
  intro vs
  induction vs with
  | nil => intro k v h; simp at h
  | cons w vs ih =>
    intro k v h
    cases k with
    | zero => rw [List.getElem?_cons_zero] at h; exact Option.some.inj h
    | succ k => rw [List.getElem?_cons_succ] at h; exact ih h
theorem mv_ul : ∀ {vs : List mv_V} {k : Nat} {v : mv_V}, k < vs.length → mv_u (mv_l vs) k v = mv_l (vs.set k v) := by
  intro vs
  induction vs with
  | nil => intro k v h; simp at h
  | cons w vs ih =>
    intro k v h
    funext j
    cases k with
    | zero =>
      cases j with
      | zero => rfl
      | succ j => rw [mv_un (by omega)]; rfl
    | succ k =>
      cases j with
      | zero => rw [mv_un (by omega)]; rfl
      | succ j =>
        have h2 := congrFun (ih (k := k) (v := v) (by simpa using h)) j
        show mv_u (mv_l (w :: vs)) (k + 1) v (j + 1) = mv_l (vs.set k v) j
        rw [← h2]
        by_cases hj : j = k
        · subst hj; rw [mv_us, mv_us]
        · rw [mv_un hj, mv_un (by omega)]; rfl
theorem mv_ld : ∀ {vs : List mv_V}, (∀ v ∈ vs, v = .inl 0 ∨ v = .inr 0) → ∀ j, mv_l vs j = .inl 0 ∨ mv_l vs j = .inr 0 := by
  intro vs
  induction vs with
  | nil => intro _ j; exact Or.inr rfl
  | cons w vs ih =>
    intro h j
    cases j with
    | zero => exact h w List.mem_cons_self
    | succ j => exact ih (fun v hv => h v (List.mem_cons_of_mem _ hv)) j
section MZ
variable {md : mv_D} {pc : Nat} {lo st : List mv_V} {M : mv_M} {bu : Nat × Nat} {Q : List mv_V → mv_M → Prop}
theorem mx_gl {ix ci k0 o : Nat} {vs : List mv_V} {v : mv_V} (hd : decode md.2.1 pc = .ok (.getfield ix, 3)) (hf : mv_F md.1.cls ix ci k0) (ho : M.2 o = .inr (ci, mv_l vs)) (hv : vs[k0]? = some v) (k : mv_W md (pc + 3) lo (v :: st) M bu Q) : mv_W md pc lo (.inr o :: st) M bu Q :=
  mx_get hd hf ho (by rw [mv_lg hv]; exact k)
theorem mx_pl {ix ci k0 o : Nat} {vs : List mv_V} {ty : FieldType} {v : mv_V} (hd : decode md.2.1 pc = .ok (.putfield ix, 3)) (hf : mv_Pf md.1.cls ix ci k0 false ty) (ho : M.2 o = .inr (ci, mv_l vs)) (hv : mv_Vt ty v) (hk : k0 < vs.length) (k : mv_W md (pc + 3) lo st (mv_p M o (.inr (ci, mv_l (vs.set k0 v)))) bu Q) : mv_W md pc lo (v :: .inr o :: st) M bu Q :=
  mx_put hd hf ho hv (by rw [mv_ul hk]; exact k)
theorem mx_plF {ix ci k0 o : Nat} {vs : List mv_V} {ty : FieldType} {v : mv_V} (hd : decode md.2.1 pc = .ok (.putfield ix, 3)) (hi : md.1.name = "<init>") (hf : mv_Pf md.1.cls ix ci k0 true ty) (ho : M.2 o = .inr (ci, mv_l vs)) (hv : mv_Vt ty v) (hk : k0 < vs.length) (k : mv_W md (pc + 3) lo st (mv_p M o (.inr (ci, mv_l (vs.set k0 v)))) bu Q) : mv_W md pc lo (v :: .inr o :: st) M bu Q :=
  mx_putF hd hi hf ho hv (by rw [mv_ul hk]; exact k)
theorem mx_z0 {off : Int} (tgt : Nat) (hd : decode md.2.1 pc = .ok (.ifCond .eq off, 3)) (ht : (pc : Int) + off = (tgt : Int)) (k : mv_W md tgt lo st M bu Q) : mv_W md pc lo (.inl 0 :: st) M bu Q := mx_if_eq tgt hd ht (fun _ => k) (fun h => absurd rfl h)
theorem mx_z1 {off : Int} (tgt : Nat) (hd : decode md.2.1 pc = .ok (.ifCond .eq off, 3)) (ht : (pc : Int) + off = (tgt : Int)) (k : mv_W md (pc + 3) lo st M bu Q) : mv_W md pc lo (.inl 1 :: st) M bu Q := mx_if_eq tgt hd ht (fun h => absurd h (by omega)) (fun _ => k)
theorem mx_n0 {off : Int} (tgt : Nat) (hd : decode md.2.1 pc = .ok (.ifCond .ne off, 3)) (ht : (pc : Int) + off = (tgt : Int)) (k : mv_W md (pc + 3) lo st M bu Q) : mv_W md pc lo (.inl 0 :: st) M bu Q := mx_if_ne tgt hd ht (fun h => absurd rfl h) (fun _ => k)
theorem mx_n1 {off : Int} (tgt : Nat) (hd : decode md.2.1 pc = .ok (.ifCond .ne off, 3)) (ht : (pc : Int) + off = (tgt : Int)) (k : mv_W md tgt lo st M bu Q) : mv_W md pc lo (.inl 1 :: st) M bu Q := mx_if_ne tgt hd ht (fun _ => k) (fun h => absurd h (by omega))
/-- a call of a method that makes no cells -/
def mv_kV (own : String) (ix ci n : Nat) (md' : mv_D) : Prop := mv_cV own ix md' ∧ md'.2.2.2.2.cells = 0 ∧ md'.2.2.2.2.slots = 0 ∧ ci < 4096 ∧ (∃ (T : u_T) (N : Nat), classes[ci]? = some (md'.1.cls, T, N)) ∧ (parseMethodDescriptor md'.1.desc).map (fun d => d.parameters.length) = some n
def mv_kS (own : String) (ix n : Nat) (md' : mv_D) : Prop := mv_cS own ix md' ∧ md'.2.2.2.2.cells = 0 ∧ md'.2.2.2.2.slots = 0 ∧ (parseMethodDescriptor md'.1.desc).map (fun d => d.parameters.length) = some n
theorem mx_kV {md' : mv_D} {as : List mv_V} {o ci ix : Nat} {fs : Nat → mv_V} {stk : List mv_V} (hd : decode md.2.1 pc = .ok (.invokevirtual ix, 3)) (hw : mv_kV md.1.cls ix ci as.length md') (ho : M.2 o = .inr (ci, fs)) (hfit : mv_fit md md') (h8 : st.length ≤ 8) (hs : stk = as.reverse ++ .inr o :: st)
    (k : mv_J md' (.inr o :: as) M (fun r M' => mv_W md (pc + 3) lo (r ++ st) M' bu Q)) : mv_W md pc lo stk M bu Q := by
  intro p l e R s m args below meth c D cA A Qr G ad ls H locs S L hst hb E
  have hR := G.2.2.2.2.2.2.2.1
  obtain ⟨w, h1, h2, hci, ⟨T, N, hc⟩, hn⟩ := hw
  refine mx_callV hd w hn hfit ⟨by rw [h1]; rw [hR] at hb; exact hb.1, by rw [h2]; rw [hR] at hb; exact hb.2⟩ ho hci hc hs h8 ?_ p l e R s m args below meth c D cA A Qr G ad ls H locs S L hst hb E
  rw [h1, h2]; exact k
theorem mx_kS {md' : mv_D} {as : List mv_V} {ix : Nat} {stk : List mv_V} (hd : decode md.2.1 pc = .ok (.invokestatic ix, 3)) (hw : mv_kS md.1.cls ix as.length md') (hfit : mv_fit md md') (h8 : st.length ≤ 8) (hs : stk = as.reverse ++ st)
    (k : mv_J md' as M (fun r M' => mv_W md (pc + 3) lo (r ++ st) M' bu Q)) : mv_W md pc lo stk M bu Q := by
  intro p l e R s m args below meth c D cA A Qr G ad ls H locs S L hst hb E
  have hR := G.2.2.2.2.2.2.2.1
  obtain ⟨w, h1, h2, hn⟩ := hw
  refine mx_callS hd w hn hfit ⟨by rw [h1]; rw [hR] at hb; exact hb.1, by rw [h2]; rw [hR] at hb; exact hb.2⟩ hs h8 ?_ p l e R s m args below meth c D cA A Qr G ad ls H locs S L hst hb E
  rw [h1, h2]; exact k
theorem mx_cV0 {md' : mv_D} {o ci ix : Nat} {fs : Nat → mv_V} (hd : decode md.2.1 pc = .ok (.invokevirtual ix, 3)) (hw : mv_kV md.1.cls ix ci 0 md') (ho : M.2 o = .inr (ci, fs)) (hfit : mv_fit md md') (h8 : st.length ≤ 8) (k : mv_J md' [.inr o] M (fun r M' => mv_W md (pc + 3) lo (r ++ st) M' bu Q)) : mv_W md pc lo (.inr o :: st) M bu Q :=
  mx_kV (as := []) hd hw ho hfit h8 rfl k
theorem mx_cV1 {md' : mv_D} {a1 : mv_V} {o ci ix : Nat} {fs : Nat → mv_V} (hd : decode md.2.1 pc = .ok (.invokevirtual ix, 3)) (hw : mv_kV md.1.cls ix ci 1 md') (ho : M.2 o = .inr (ci, fs)) (hfit : mv_fit md md') (h8 : st.length ≤ 8) (k : mv_J md' [.inr o, a1] M (fun r M' => mv_W md (pc + 3) lo (r ++ st) M' bu Q)) : mv_W md pc lo (a1 :: .inr o :: st) M bu Q :=
  mx_kV (as := [a1]) hd hw ho hfit h8 rfl k
theorem mx_cV2 {md' : mv_D} {a1 a2 : mv_V} {o ci ix : Nat} {fs : Nat → mv_V} (hd : decode md.2.1 pc = .ok (.invokevirtual ix, 3)) (hw : mv_kV md.1.cls ix ci 2 md') (ho : M.2 o = .inr (ci, fs)) (hfit : mv_fit md md') (h8 : st.length ≤ 8) (k : mv_J md' [.inr o, a1, a2] M (fun r M' => mv_W md (pc + 3) lo (r ++ st) M' bu Q)) : mv_W md pc lo (a2 :: a1 :: .inr o :: st) M bu Q :=
  mx_kV (as := [a1, a2]) hd hw ho hfit h8 rfl k
theorem mx_cV3 {md' : mv_D} {a1 a2 a3 : mv_V} {o ci ix : Nat} {fs : Nat → mv_V} (hd : decode md.2.1 pc = .ok (.invokevirtual ix, 3)) (hw : mv_kV md.1.cls ix ci 3 md') (ho : M.2 o = .inr (ci, fs)) (hfit : mv_fit md md') (h8 : st.length ≤ 8) (k : mv_J md' [.inr o, a1, a2, a3] M (fun r M' => mv_W md (pc + 3) lo (r ++ st) M' bu Q)) : mv_W md pc lo (a3 :: a2 :: a1 :: .inr o :: st) M bu Q :=
  mx_kV (as := [a1, a2, a3]) hd hw ho hfit h8 rfl k
theorem mx_cV4 {md' : mv_D} {a1 a2 a3 a4 : mv_V} {o ci ix : Nat} {fs : Nat → mv_V} (hd : decode md.2.1 pc = .ok (.invokevirtual ix, 3)) (hw : mv_kV md.1.cls ix ci 4 md') (ho : M.2 o = .inr (ci, fs)) (hfit : mv_fit md md') (h8 : st.length ≤ 8) (k : mv_J md' [.inr o, a1, a2, a3, a4] M (fun r M' => mv_W md (pc + 3) lo (r ++ st) M' bu Q)) : mv_W md pc lo (a4 :: a3 :: a2 :: a1 :: .inr o :: st) M bu Q :=
  mx_kV (as := [a1, a2, a3, a4]) hd hw ho hfit h8 rfl k
theorem mx_cV5 {md' : mv_D} {a1 a2 a3 a4 a5 : mv_V} {o ci ix : Nat} {fs : Nat → mv_V} (hd : decode md.2.1 pc = .ok (.invokevirtual ix, 3)) (hw : mv_kV md.1.cls ix ci 5 md') (ho : M.2 o = .inr (ci, fs)) (hfit : mv_fit md md') (h8 : st.length ≤ 8) (k : mv_J md' [.inr o, a1, a2, a3, a4, a5] M (fun r M' => mv_W md (pc + 3) lo (r ++ st) M' bu Q)) : mv_W md pc lo (a5 :: a4 :: a3 :: a2 :: a1 :: .inr o :: st) M bu Q :=
  mx_kV (as := [a1, a2, a3, a4, a5]) hd hw ho hfit h8 rfl k
theorem mx_cS0 {md' : mv_D} {ix : Nat} (hd : decode md.2.1 pc = .ok (.invokestatic ix, 3)) (hw : mv_kS md.1.cls ix 0 md') (hfit : mv_fit md md') (h8 : st.length ≤ 8) (k : mv_J md' [] M (fun r M' => mv_W md (pc + 3) lo (r ++ st) M' bu Q)) : mv_W md pc lo (st) M bu Q :=
  mx_kS (as := []) hd hw hfit h8 rfl k
theorem mx_cS1 {md' : mv_D} {a1 : mv_V} {ix : Nat} (hd : decode md.2.1 pc = .ok (.invokestatic ix, 3)) (hw : mv_kS md.1.cls ix 1 md') (hfit : mv_fit md md') (h8 : st.length ≤ 8) (k : mv_J md' [a1] M (fun r M' => mv_W md (pc + 3) lo (r ++ st) M' bu Q)) : mv_W md pc lo (a1 :: st) M bu Q :=
  mx_kS (as := [a1]) hd hw hfit h8 rfl k
theorem mx_cS2 {md' : mv_D} {a1 a2 : mv_V} {ix : Nat} (hd : decode md.2.1 pc = .ok (.invokestatic ix, 3)) (hw : mv_kS md.1.cls ix 2 md') (hfit : mv_fit md md') (h8 : st.length ≤ 8) (k : mv_J md' [a1, a2] M (fun r M' => mv_W md (pc + 3) lo (r ++ st) M' bu Q)) : mv_W md pc lo (a2 :: a1 :: st) M bu Q :=
  mx_kS (as := [a1, a2]) hd hw hfit h8 rfl k
theorem mx_cS3 {md' : mv_D} {a1 a2 a3 : mv_V} {ix : Nat} (hd : decode md.2.1 pc = .ok (.invokestatic ix, 3)) (hw : mv_kS md.1.cls ix 3 md') (hfit : mv_fit md md') (h8 : st.length ≤ 8) (k : mv_J md' [a1, a2, a3] M (fun r M' => mv_W md (pc + 3) lo (r ++ st) M' bu Q)) : mv_W md pc lo (a3 :: a2 :: a1 :: st) M bu Q :=
  mx_kS (as := [a1, a2, a3]) hd hw hfit h8 rfl k
theorem mx_cS4 {md' : mv_D} {a1 a2 a3 a4 : mv_V} {ix : Nat} (hd : decode md.2.1 pc = .ok (.invokestatic ix, 3)) (hw : mv_kS md.1.cls ix 4 md') (hfit : mv_fit md md') (h8 : st.length ≤ 8) (k : mv_J md' [a1, a2, a3, a4] M (fun r M' => mv_W md (pc + 3) lo (r ++ st) M' bu Q)) : mv_W md pc lo (a4 :: a3 :: a2 :: a1 :: st) M bu Q :=
  mx_kS (as := [a1, a2, a3, a4]) hd hw hfit h8 rfl k
theorem mx_cS5 {md' : mv_D} {a1 a2 a3 a4 a5 : mv_V} {ix : Nat} (hd : decode md.2.1 pc = .ok (.invokestatic ix, 3)) (hw : mv_kS md.1.cls ix 5 md') (hfit : mv_fit md md') (h8 : st.length ≤ 8) (k : mv_J md' [a1, a2, a3, a4, a5] M (fun r M' => mv_W md (pc + 3) lo (r ++ st) M' bu Q)) : mv_W md pc lo (a5 :: a4 :: a3 :: a2 :: a1 :: st) M bu Q :=
  mx_kS (as := [a1, a2, a3, a4, a5]) hd hw hfit h8 rfl k
end MZ
end
section
/-! methods -/
def md_BF_init : mv_D := (⟨"BlockFinder", "<init>", "(II)V"⟩, prog_1_method_1_code, 3, none, { frames := 3, cells := 44, slots := 2283, locals := 63 })
theorem mm_BF_init : mv_Md md_BF_init := ⟨mv_good (mv_in 11 (by decide +kernel) (by decide +kernel)), mv_in 1 (by decide +kernel) (by decide +kernel), by decide +kernel, by decide +kernel⟩
def md_BF_box : mv_D := (⟨"BlockFinder", "box", "(IIII)I"⟩, prog_1_method_2_code, 6, some .int, { frames := 2, cells := 0, slots := 0, locals := 50 })
theorem mm_BF_box : mv_Md md_BF_box := ⟨mv_good (mv_in 159 (by decide +kernel) (by decide +kernel)), mv_in 1 (by decide +kernel) (by decide +kernel), by decide +kernel, by decide +kernel⟩
def md_BF_frame : mv_D := (⟨"BlockFinder", "frame", "(IIII)I"⟩, prog_1_method_3_code, 5, some .int, { frames := 2, cells := 0, slots := 0, locals := 50 })
theorem mm_BF_frame : mv_Md md_BF_frame := ⟨mv_good (mv_in 175 (by decide +kernel) (by decide +kernel)), mv_in 1 (by decide +kernel) (by decide +kernel), by decide +kernel, by decide +kernel⟩
def md_BF_find : mv_D := (⟨"BlockFinder", "find", "()I"⟩, prog_1_method_4_code, 2, some .int, { frames := 4, cells := 0, slots := 0, locals := 96 })
theorem mm_BF_find : mv_Md md_BF_find := ⟨mv_good (mv_in 179 (by decide +kernel) (by decide +kernel)), mv_in 1 (by decide +kernel) (by decide +kernel), by decide +kernel, by decide +kernel⟩
def md_BF_block : mv_D := (⟨"BlockFinder", "block", "(II)I"⟩, prog_1_method_5_code, 4, some .int, { frames := 2, cells := 0, slots := 0, locals := 42 })
theorem mm_BF_block : mv_Md md_BF_block := ⟨mv_good (mv_in 302 (by decide +kernel) (by decide +kernel)), mv_in 1 (by decide +kernel) (by decide +kernel), by decide +kernel, by decide +kernel⟩
def md_BF_line : mv_D := (⟨"BlockFinder", "line", "(III)I"⟩, prog_1_method_6_code, 5, some .int, { frames := 2, cells := 0, slots := 0, locals := 45 })
theorem mm_BF_line : mv_Md md_BF_line := ⟨mv_good (mv_in 321 (by decide +kernel) (by decide +kernel)), mv_in 1 (by decide +kernel) (by decide +kernel), by decide +kernel, by decide +kernel⟩
def md_BF_points : mv_D := (⟨"BlockFinder", "points", "(I)I"⟩, prog_1_method_7_code, 2, some .int, { frames := 2, cells := 0, slots := 0, locals := 42 })
theorem mm_BF_points : mv_Md md_BF_points := ⟨mv_good (mv_in 329 (by decide +kernel) (by decide +kernel)), mv_in 1 (by decide +kernel) (by decide +kernel), by decide +kernel, by decide +kernel⟩
def md_BF_printed : mv_D := (⟨"BlockFinder", "printed", "(I)Z"⟩, prog_1_method_8_code, 3, some .boolean, { frames := 2, cells := 0, slots := 0, locals := 42 })
theorem mm_BF_printed : mv_Md md_BF_printed := ⟨mv_good (mv_in 333 (by decide +kernel) (by decide +kernel)), mv_in 1 (by decide +kernel) (by decide +kernel), by decide +kernel, by decide +kernel⟩
def md_BF_turned : mv_D := (⟨"BlockFinder", "turned", "()Z"⟩, prog_1_method_9_code, 1, some .boolean, { frames := 0, cells := 0, slots := 0, locals := 0 })
theorem mm_BF_turned : mv_Md md_BF_turned := ⟨mv_good (mv_in 337 (by decide +kernel) (by decide +kernel)), mv_in 1 (by decide +kernel) (by decide +kernel), by decide +kernel, by decide +kernel⟩
def md_BF_blockOf : mv_D := (⟨"BlockFinder", "blockOf", "(I)I"⟩, prog_1_method_10_code, 2, some .int, { frames := 1, cells := 0, slots := 0, locals := 21 })
theorem mm_BF_blockOf : mv_Md md_BF_blockOf := ⟨mv_good (mv_in 341 (by decide +kernel) (by decide +kernel)), mv_in 1 (by decide +kernel) (by decide +kernel), by decide +kernel, by decide +kernel⟩
def md_BF_candidates : mv_D := (⟨"BlockFinder", "candidates", "()I"⟩, prog_1_method_11_code, 3, some .int, { frames := 1, cells := 0, slots := 0, locals := 20 })
theorem mm_BF_candidates : mv_Md md_BF_candidates := ⟨mv_good (mv_in 346 (by decide +kernel) (by decide +kernel)), mv_in 1 (by decide +kernel) (by decide +kernel), by decide +kernel, by decide +kernel⟩
def md_BF_clear : mv_D := (⟨"BlockFinder", "clear", "()I"⟩, prog_1_method_12_code, 2, some .int, { frames := 0, cells := 0, slots := 0, locals := 0 })
theorem mm_BF_clear : mv_Md md_BF_clear := ⟨mv_good (mv_in 350 (by decide +kernel) (by decide +kernel)), mv_in 1 (by decide +kernel) (by decide +kernel), by decide +kernel, by decide +kernel⟩
def md_BF_nearestSide : mv_D := (⟨"BlockFinder", "nearestSide", "(I)I"⟩, prog_1_method_13_code, 1, some .int, { frames := 1, cells := 0, slots := 0, locals := 21 })
theorem mm_BF_nearestSide : mv_Md md_BF_nearestSide := ⟨mv_good (mv_in 108 (by decide +kernel) (by decide +kernel)), mv_in 1 (by decide +kernel) (by decide +kernel), by decide +kernel, by decide +kernel⟩
def md_BF_isDetail : mv_D := (⟨"BlockFinder", "isDetail", "(I)Z"⟩, prog_1_method_14_code, 1, some .boolean, { frames := 0, cells := 0, slots := 0, locals := 0 })
theorem mm_BF_isDetail : mv_Md md_BF_isDetail := ⟨mv_good (mv_in 313 (by decide +kernel) (by decide +kernel)), mv_in 1 (by decide +kernel) (by decide +kernel), by decide +kernel, by decide +kernel⟩
def md_BF_addTo : mv_D := (⟨"BlockFinder", "addTo", "(LBlockFinder$Rectangles;IIII)I"⟩, prog_1_method_15_code, 6, some .int, { frames := 1, cells := 0, slots := 0, locals := 25 })
theorem mm_BF_addTo : mv_Md md_BF_addTo := ⟨mv_good (mv_in 163 (by decide +kernel) (by decide +kernel)), mv_in 1 (by decide +kernel) (by decide +kernel), by decide +kernel, by decide +kernel⟩
def md_BF_liesOnSheet : mv_D := (⟨"BlockFinder", "liesOnSheet", "(IIII)Z"⟩, prog_1_method_16_code, 5, some .boolean, { frames := 0, cells := 0, slots := 0, locals := 0 })
theorem mm_BF_liesOnSheet : mv_Md md_BF_liesOnSheet := ⟨mv_good (mv_in 167 (by decide +kernel) (by decide +kernel)), mv_in 1 (by decide +kernel) (by decide +kernel), by decide +kernel, by decide +kernel⟩
def md_BF_joinBoxes : mv_D := (⟨"BlockFinder", "joinBoxes", "(LBlockFinder$Sets;Z)V"⟩, prog_1_method_17_code, 5, none, { frames := 3, cells := 0, slots := 0, locals := 72 })
theorem mm_BF_joinBoxes : mv_Md md_BF_joinBoxes := ⟨mv_good (mv_in 183 (by decide +kernel) (by decide +kernel)), mv_in 1 (by decide +kernel) (by decide +kernel), by decide +kernel, by decide +kernel⟩
def md_BF_joinLines : mv_D := (⟨"BlockFinder", "joinLines", "()V"⟩, prog_1_method_18_code, 3, none, { frames := 3, cells := 0, slots := 0, locals := 71 })
theorem mm_BF_joinLines : mv_Md md_BF_joinLines := ⟨mv_good (mv_in 243 (by decide +kernel) (by decide +kernel)), mv_in 1 (by decide +kernel) (by decide +kernel), by decide +kernel, by decide +kernel⟩
def md_BF_groupOfBox : mv_D := (⟨"BlockFinder", "groupOfBox", "(I)I"⟩, prog_1_method_19_code, 2, some .int, { frames := 0, cells := 0, slots := 0, locals := 0 })
theorem mm_BF_groupOfBox : mv_Md md_BF_groupOfBox := ⟨mv_good (mv_in 262 (by decide +kernel) (by decide +kernel)), mv_in 1 (by decide +kernel) (by decide +kernel), by decide +kernel, by decide +kernel⟩
def md_BF_measureBoxesOfBlocks : mv_D := (⟨"BlockFinder", "measureBoxesOfBlocks", "()V"⟩, prog_1_method_20_code, 4, none, { frames := 2, cells := 0, slots := 0, locals := 44 })
theorem mm_BF_measureBoxesOfBlocks : mv_Md md_BF_measureBoxesOfBlocks := ⟨mv_good (mv_in 258 (by decide +kernel) (by decide +kernel)), mv_in 1 (by decide +kernel) (by decide +kernel), by decide +kernel, by decide +kernel⟩
def md_BF_judge : mv_D := (⟨"BlockFinder", "judge", "(I)I"⟩, prog_1_method_21_code, 4, some .int, { frames := 2, cells := 0, slots := 0, locals := 45 })
theorem mm_BF_judge : mv_Md md_BF_judge := ⟨mv_good (mv_in 267 (by decide +kernel) (by decide +kernel)), mv_in 1 (by decide +kernel) (by decide +kernel), by decide +kernel, by decide +kernel⟩
def md_BF_isStamp : mv_D := (⟨"BlockFinder", "isStamp", "(I)Z"⟩, prog_1_method_22_code, 2, some .boolean, { frames := 0, cells := 0, slots := 0, locals := 0 })
theorem mm_BF_isStamp : mv_Md md_BF_isStamp := ⟨mv_good (mv_in 279 (by decide +kernel) (by decide +kernel)), mv_in 1 (by decide +kernel) (by decide +kernel), by decide +kernel, by decide +kernel⟩
def md_BF_isSender : mv_D := (⟨"BlockFinder", "isSender", "(I)Z"⟩, prog_1_method_23_code, 2, some .boolean, { frames := 0, cells := 0, slots := 0, locals := 0 })
theorem mm_BF_isSender : mv_Md md_BF_isSender := ⟨mv_good (mv_in 283 (by decide +kernel) (by decide +kernel)), mv_in 1 (by decide +kernel) (by decide +kernel), by decide +kernel, by decide +kernel⟩
def md_BF_liesInPane : mv_D := (⟨"BlockFinder", "liesInPane", "(I)Z"⟩, prog_1_method_24_code, 3, some .boolean, { frames := 1, cells := 0, slots := 0, locals := 23 })
theorem mm_BF_liesInPane : mv_Md md_BF_liesInPane := ⟨mv_good (mv_in 271 (by decide +kernel) (by decide +kernel)), mv_in 1 (by decide +kernel) (by decide +kernel), by decide +kernel, by decide +kernel⟩
def md_BF_lineInBlock : mv_D := (⟨"BlockFinder", "lineInBlock", "(II)I"⟩, prog_1_method_25_code, 6, some .int, { frames := 1, cells := 0, slots := 0, locals := 20 })
theorem mm_BF_lineInBlock : mv_Md md_BF_lineInBlock := ⟨mv_good (mv_in 325 (by decide +kernel) (by decide +kernel)), mv_in 1 (by decide +kernel) (by decide +kernel), by decide +kernel, by decide +kernel⟩
def md_RM_init : mv_D := (⟨"BlockFinderModel", "<init>", "(II)V"⟩, prog_6_method_1_code, 3, none, { frames := 1, cells := 16, slots := 2000, locals := 21 })
theorem mm_RM_init : mv_Md md_RM_init := ⟨mv_good (mv_in 358 (by decide +kernel) (by decide +kernel)), mv_in 6 (by decide +kernel) (by decide +kernel), by decide +kernel, by decide +kernel⟩
def md_RM_isOnSheet : mv_D := (⟨"BlockFinderModel", "isOnSheet", "(IIII)Z"⟩, prog_6_method_3_code, 5, some .boolean, { frames := 0, cells := 0, slots := 0, locals := 0 })
theorem mm_RM_isOnSheet : mv_Md md_RM_isOnSheet := ⟨mv_good (mv_in 456 (by decide +kernel) (by decide +kernel)), mv_in 6 (by decide +kernel) (by decide +kernel), by decide +kernel, by decide +kernel⟩
def md_RM_box : mv_D := (⟨"BlockFinderModel", "box", "(IIII)I"⟩, prog_6_method_4_code, 5, some .int, { frames := 1, cells := 0, slots := 0, locals := 24 })
theorem mm_RM_box : mv_Md md_RM_box := ⟨mv_good (mv_in 452 (by decide +kernel) (by decide +kernel)), mv_in 6 (by decide +kernel) (by decide +kernel), by decide +kernel, by decide +kernel⟩
def md_RM_frame : mv_D := (⟨"BlockFinderModel", "frame", "(IIII)I"⟩, prog_6_method_5_code, 5, some .int, { frames := 1, cells := 0, slots := 0, locals := 24 })
theorem mm_RM_frame : mv_Md md_RM_frame := ⟨mv_good (mv_in 460 (by decide +kernel) (by decide +kernel)), mv_in 6 (by decide +kernel) (by decide +kernel), by decide +kernel, by decide +kernel⟩
def md_RM_side : mv_D := (⟨"BlockFinderModel", "side", "(II)I"⟩, prog_6_method_6_code, 4, some .int, { frames := 0, cells := 0, slots := 0, locals := 0 })
theorem mm_RM_side : mv_Md md_RM_side := ⟨mv_good (mv_in 480 (by decide +kernel) (by decide +kernel)), mv_in 6 (by decide +kernel) (by decide +kernel), by decide +kernel, by decide +kernel⟩
def md_RM_left : mv_D := (⟨"BlockFinderModel", "left", "(I)I"⟩, prog_6_method_7_code, 2, some .int, { frames := 1, cells := 0, slots := 0, locals := 23 })
theorem mm_RM_left : mv_Md md_RM_left := ⟨mv_good (mv_in 494 (by decide +kernel) (by decide +kernel)), mv_in 6 (by decide +kernel) (by decide +kernel), by decide +kernel, by decide +kernel⟩
def md_RM_upper : mv_D := (⟨"BlockFinderModel", "upper", "(I)I"⟩, prog_6_method_8_code, 2, some .int, { frames := 1, cells := 0, slots := 0, locals := 23 })
theorem mm_RM_upper : mv_Md md_RM_upper := ⟨mv_good (mv_in 487 (by decide +kernel) (by decide +kernel)), mv_in 6 (by decide +kernel) (by decide +kernel), by decide +kernel, by decide +kernel⟩
def md_RM_right : mv_D := (⟨"BlockFinderModel", "right", "(I)I"⟩, prog_6_method_9_code, 2, some .int, { frames := 1, cells := 0, slots := 0, locals := 23 })
theorem mm_RM_right : mv_Md md_RM_right := ⟨mv_good (mv_in 498 (by decide +kernel) (by decide +kernel)), mv_in 6 (by decide +kernel) (by decide +kernel), by decide +kernel, by decide +kernel⟩
def md_RM_lower : mv_D := (⟨"BlockFinderModel", "lower", "(I)I"⟩, prog_6_method_10_code, 2, some .int, { frames := 1, cells := 0, slots := 0, locals := 23 })
theorem mm_RM_lower : mv_Md md_RM_lower := ⟨mv_good (mv_in 476 (by decide +kernel) (by decide +kernel)), mv_in 6 (by decide +kernel) (by decide +kernel), by decide +kernel, by decide +kernel⟩
def md_RM_high : mv_D := (⟨"BlockFinderModel", "high", "(I)I"⟩, prog_6_method_11_code, 2, some .int, { frames := 1, cells := 0, slots := 0, locals := 23 })
theorem mm_RM_high : mv_Md md_RM_high := ⟨mv_good (mv_in 502 (by decide +kernel) (by decide +kernel)), mv_in 6 (by decide +kernel) (by decide +kernel), by decide +kernel, by decide +kernel⟩
def md_RM_least : mv_D := (⟨"BlockFinderModel", "least", "(II)I"⟩, prog_6_method_12_code, 2, some .int, { frames := 0, cells := 0, slots := 0, locals := 0 })
theorem mm_RM_least : mv_Md md_RM_least := ⟨mv_good (mv_in 483 (by decide +kernel) (by decide +kernel)), mv_in 6 (by decide +kernel) (by decide +kernel), by decide +kernel, by decide +kernel⟩
def md_RM_most : mv_D := (⟨"BlockFinderModel", "most", "(II)I"⟩, prog_6_method_13_code, 2, some .int, { frames := 0, cells := 0, slots := 0, locals := 0 })
theorem mm_RM_most : mv_Md md_RM_most := ⟨mv_good (mv_in 490 (by decide +kernel) (by decide +kernel)), mv_in 6 (by decide +kernel) (by decide +kernel), by decide +kernel, by decide +kernel⟩
def md_RM_areBoxesNear : mv_D := (⟨"BlockFinderModel", "areBoxesNear", "(II)Z"⟩, prog_6_method_14_code, 5, some .boolean, { frames := 2, cells := 0, slots := 0, locals := 44 })
theorem mm_RM_areBoxesNear : mv_Md md_RM_areBoxesNear := ⟨mv_good (mv_in 472 (by decide +kernel) (by decide +kernel)), mv_in 6 (by decide +kernel) (by decide +kernel), by decide +kernel, by decide +kernel⟩
def md_RM_areLinesNear : mv_D := (⟨"BlockFinderModel", "areLinesNear", "(II)Z"⟩, prog_6_method_15_code, 5, some .boolean, { frames := 2, cells := 0, slots := 0, locals := 44 })
theorem mm_RM_areLinesNear : mv_Md md_RM_areLinesNear := ⟨mv_good (mv_in 525 (by decide +kernel) (by decide +kernel)), mv_in 6 (by decide +kernel) (by decide +kernel), by decide +kernel, by decide +kernel⟩
def md_RM_findLines : mv_D := (⟨"BlockFinderModel", "findLines", "(Z)I"⟩, prog_6_method_16_code, 5, some .int, { frames := 3, cells := 0, slots := 0, locals := 68 })
theorem mm_RM_findLines : mv_Md md_RM_findLines := ⟨mv_good (mv_in 468 (by decide +kernel) (by decide +kernel)), mv_in 6 (by decide +kernel) (by decide +kernel), by decide +kernel, by decide +kernel⟩
def md_RM_join : mv_D := (⟨"BlockFinderModel", "join", "([IIIIIIZ)V"⟩, prog_6_method_17_code, 9, none, { frames := 1, cells := 0, slots := 0, locals := 21 })
theorem mm_RM_join : mv_Md md_RM_join := ⟨mv_good (mv_in 509 (by decide +kernel) (by decide +kernel)), mv_in 6 (by decide +kernel) (by decide +kernel), by decide +kernel, by decide +kernel⟩
def md_RM_rectangles : mv_D := (⟨"BlockFinderModel", "rectangles", "()V"⟩, prog_6_method_18_code, 3, none, { frames := 2, cells := 0, slots := 0, locals := 49 })
theorem mm_RM_rectangles : mv_Md md_RM_rectangles := ⟨mv_good (mv_in 506 (by decide +kernel) (by decide +kernel)), mv_in 6 (by decide +kernel) (by decide +kernel), by decide +kernel, by decide +kernel⟩
def md_RM_sortLines : mv_D := (⟨"BlockFinderModel", "sortLines", "()V"⟩, prog_6_method_19_code, 5, none, { frames := 3, cells := 0, slots := 0, locals := 68 })
theorem mm_RM_sortLines : mv_Md md_RM_sortLines := ⟨mv_good (mv_in 513 (by decide +kernel) (by decide +kernel)), mv_in 6 (by decide +kernel) (by decide +kernel), by decide +kernel, by decide +kernel⟩
def md_RM_isBefore : mv_D := (⟨"BlockFinderModel", "isBefore", "(IIII)Z"⟩, prog_6_method_20_code, 5, some .boolean, { frames := 2, cells := 0, slots := 0, locals := 44 })
theorem mm_RM_isBefore : mv_Md md_RM_isBefore := ⟨mv_good (mv_in 517 (by decide +kernel) (by decide +kernel)), mv_in 6 (by decide +kernel) (by decide +kernel), by decide +kernel, by decide +kernel⟩
def md_RM_findBlocks : mv_D := (⟨"BlockFinderModel", "findBlocks", "()V"⟩, prog_6_method_21_code, 4, none, { frames := 3, cells := 0, slots := 0, locals := 68 })
theorem mm_RM_findBlocks : mv_Md md_RM_findBlocks := ⟨mv_good (mv_in 521 (by decide +kernel) (by decide +kernel)), mv_in 6 (by decide +kernel) (by decide +kernel), by decide +kernel, by decide +kernel⟩
def md_RM_lineAt : mv_D := (⟨"BlockFinderModel", "lineAt", "(I)I"⟩, prog_6_method_22_code, 3, some .int, { frames := 0, cells := 0, slots := 0, locals := 0 })
theorem mm_RM_lineAt : mv_Md md_RM_lineAt := ⟨mv_good (mv_in 545 (by decide +kernel) (by decide +kernel)), mv_in 6 (by decide +kernel) (by decide +kernel), by decide +kernel, by decide +kernel⟩
def md_RM_keepLines : mv_D := (⟨"BlockFinderModel", "keepLines", "()V"⟩, prog_6_method_23_code, 3, none, { frames := 3, cells := 0, slots := 0, locals := 79 })
theorem mm_RM_keepLines : mv_Md md_RM_keepLines := ⟨mv_good (mv_in 529 (by decide +kernel) (by decide +kernel)), mv_in 6 (by decide +kernel) (by decide +kernel), by decide +kernel, by decide +kernel⟩
def md_RM_keepBlock : mv_D := (⟨"BlockFinderModel", "keepBlock", "(I)V"⟩, prog_6_method_24_code, 6, none, { frames := 2, cells := 0, slots := 0, locals := 54 })
theorem mm_RM_keepBlock : mv_Md md_RM_keepBlock := ⟨mv_good (mv_in 533 (by decide +kernel) (by decide +kernel)), mv_in 6 (by decide +kernel) (by decide +kernel), by decide +kernel, by decide +kernel⟩
def md_RM_isInPane : mv_D := (⟨"BlockFinderModel", "isInPane", "(I)Z"⟩, prog_6_method_25_code, 6, some .boolean, { frames := 0, cells := 0, slots := 0, locals := 0 })
theorem mm_RM_isInPane : mv_Md md_RM_isInPane := ⟨mv_good (mv_in 541 (by decide +kernel) (by decide +kernel)), mv_in 6 (by decide +kernel) (by decide +kernel), by decide +kernel, by decide +kernel⟩
def md_RM_linesOf : mv_D := (⟨"BlockFinderModel", "linesOf", "(I)I"⟩, prog_6_method_26_code, 4, some .int, { frames := 0, cells := 0, slots := 0, locals := 0 })
theorem mm_RM_linesOf : mv_Md md_RM_linesOf := ⟨mv_good (mv_in 565 (by decide +kernel) (by decide +kernel)), mv_in 6 (by decide +kernel) (by decide +kernel), by decide +kernel, by decide +kernel⟩
def md_RM_pointsOf : mv_D := (⟨"BlockFinderModel", "pointsOf", "(I)I"⟩, prog_6_method_27_code, 10, some .int, { frames := 1, cells := 0, slots := 0, locals := 25 })
theorem mm_RM_pointsOf : mv_Md md_RM_pointsOf := ⟨mv_good (mv_in 537 (by decide +kernel) (by decide +kernel)), mv_in 6 (by decide +kernel) (by decide +kernel), by decide +kernel, by decide +kernel⟩
def md_RM_isFirst : mv_D := (⟨"BlockFinderModel", "isFirst", "(II)Z"⟩, prog_6_method_28_code, 8, some .boolean, { frames := 0, cells := 0, slots := 0, locals := 0 })
theorem mm_RM_isFirst : mv_Md md_RM_isFirst := ⟨mv_good (mv_in 553 (by decide +kernel) (by decide +kernel)), mv_in 6 (by decide +kernel) (by decide +kernel), by decide +kernel, by decide +kernel⟩
def md_RM_rank : mv_D := (⟨"BlockFinderModel", "rank", "()V"⟩, prog_6_method_29_code, 3, none, { frames := 1, cells := 0, slots := 0, locals := 27 })
theorem mm_RM_rank : mv_Md md_RM_rank := ⟨mv_good (mv_in 549 (by decide +kernel) (by decide +kernel)), mv_in 6 (by decide +kernel) (by decide +kernel), by decide +kernel, by decide +kernel⟩
def md_RM_find : mv_D := (⟨"BlockFinderModel", "find", "()I"⟩, prog_6_method_30_code, 2, some .int, { frames := 4, cells := 0, slots := 0, locals := 101 })
theorem mm_RM_find : mv_Md md_RM_find := ⟨mv_good (mv_in 464 (by decide +kernel) (by decide +kernel)), mv_in 6 (by decide +kernel) (by decide +kernel), by decide +kernel, by decide +kernel⟩
def md_RM_isBlock : mv_D := (⟨"BlockFinderModel", "isBlock", "(I)Z"⟩, prog_6_method_31_code, 2, some .boolean, { frames := 0, cells := 0, slots := 0, locals := 0 })
theorem mm_RM_isBlock : mv_Md md_RM_isBlock := ⟨mv_good (mv_in 561 (by decide +kernel) (by decide +kernel)), mv_in 6 (by decide +kernel) (by decide +kernel), by decide +kernel, by decide +kernel⟩
def md_RM_block : mv_D := (⟨"BlockFinderModel", "block", "(II)I"⟩, prog_6_method_32_code, 6, some .int, { frames := 1, cells := 0, slots := 0, locals := 23 })
theorem mm_RM_block : mv_Md md_RM_block := ⟨mv_good (mv_in 557 (by decide +kernel) (by decide +kernel)), mv_in 6 (by decide +kernel) (by decide +kernel), by decide +kernel, by decide +kernel⟩
def md_RM_line : mv_D := (⟨"BlockFinderModel", "line", "(III)I"⟩, prog_6_method_33_code, 6, some .int, { frames := 1, cells := 0, slots := 0, locals := 21 })
theorem mm_RM_line : mv_Md md_RM_line := ⟨mv_good (mv_in 569 (by decide +kernel) (by decide +kernel)), mv_in 6 (by decide +kernel) (by decide +kernel), by decide +kernel, by decide +kernel⟩
def md_RM_points : mv_D := (⟨"BlockFinderModel", "points", "(I)I"⟩, prog_6_method_34_code, 2, some .int, { frames := 1, cells := 0, slots := 0, locals := 21 })
theorem mm_RM_points : mv_Md md_RM_points := ⟨mv_good (mv_in 573 (by decide +kernel) (by decide +kernel)), mv_in 6 (by decide +kernel) (by decide +kernel), by decide +kernel, by decide +kernel⟩
def md_RM_printed : mv_D := (⟨"BlockFinderModel", "printed", "(I)Z"⟩, prog_6_method_35_code, 2, some .boolean, { frames := 1, cells := 0, slots := 0, locals := 21 })
theorem mm_RM_printed : mv_Md md_RM_printed := ⟨mv_good (mv_in 577 (by decide +kernel) (by decide +kernel)), mv_in 6 (by decide +kernel) (by decide +kernel), by decide +kernel, by decide +kernel⟩
def md_RM_turned : mv_D := (⟨"BlockFinderModel", "turned", "()Z"⟩, prog_6_method_36_code, 1, some .boolean, { frames := 0, cells := 0, slots := 0, locals := 0 })
theorem mm_RM_turned : mv_Md md_RM_turned := ⟨mv_good (mv_in 581 (by decide +kernel) (by decide +kernel)), mv_in 6 (by decide +kernel) (by decide +kernel), by decide +kernel, by decide +kernel⟩
def md_RM_blockOf : mv_D := (⟨"BlockFinderModel", "blockOf", "(I)I"⟩, prog_6_method_37_code, 3, some .int, { frames := 0, cells := 0, slots := 0, locals := 0 })
theorem mm_RM_blockOf : mv_Md md_RM_blockOf := ⟨mv_good (mv_in 585 (by decide +kernel) (by decide +kernel)), mv_in 6 (by decide +kernel) (by decide +kernel), by decide +kernel, by decide +kernel⟩
def md_RM_candidates : mv_D := (⟨"BlockFinderModel", "candidates", "()I"⟩, prog_6_method_38_code, 3, some .int, { frames := 0, cells := 0, slots := 0, locals := 0 })
theorem mm_RM_candidates : mv_Md md_RM_candidates := ⟨mv_good (mv_in 589 (by decide +kernel) (by decide +kernel)), mv_in 6 (by decide +kernel) (by decide +kernel), by decide +kernel, by decide +kernel⟩
def md_RM_clear : mv_D := (⟨"BlockFinderModel", "clear", "()I"⟩, prog_6_method_39_code, 2, some .int, { frames := 0, cells := 0, slots := 0, locals := 0 })
theorem mm_RM_clear : mv_Md md_RM_clear := ⟨mv_good (mv_in 593 (by decide +kernel) (by decide +kernel)), mv_in 6 (by decide +kernel) (by decide +kernel), by decide +kernel, by decide +kernel⟩
def md_G_init : mv_D := (⟨"BlockFinder$Groups", "<init>", "()V"⟩, prog_2_method_1_code, 1, none, { frames := 2, cells := 11, slots := 645, locals := 43 })
theorem mm_G_init : mv_Md md_G_init := ⟨mv_good (mv_in 73 (by decide +kernel) (by decide +kernel)), mv_in 5 (by decide +kernel) (by decide +kernel), by decide +kernel, by decide +kernel⟩
def md_G_size : mv_D := (⟨"BlockFinder$Groups", "size", "()I"⟩, prog_2_method_2_code, 1, some .int, { frames := 0, cells := 0, slots := 0, locals := 0 })
theorem mm_G_size : mv_Md md_G_size := ⟨mv_good (mv_in 247 (by decide +kernel) (by decide +kernel)), mv_in 5 (by decide +kernel) (by decide +kernel), by decide +kernel, by decide +kernel⟩
def md_G_has : mv_D := (⟨"BlockFinder$Groups", "has", "(I)Z"⟩, prog_2_method_3_code, 2, some .boolean, { frames := 1, cells := 0, slots := 0, locals := 21 })
theorem mm_G_has : mv_Md md_G_has := ⟨mv_good (mv_in 306 (by decide +kernel) (by decide +kernel)), mv_in 5 (by decide +kernel) (by decide +kernel), by decide +kernel, by decide +kernel⟩
def md_G_gather : mv_D := (⟨"BlockFinder$Groups", "gather", "(LBlockFinder$Rectangles;LBlockFinder$Sets;)V"⟩, prog_2_method_4_code, 4, none, { frames := 3, cells := 0, slots := 0, locals := 67 })
theorem mm_G_gather : mv_Md md_G_gather := ⟨mv_good (mv_in 226 (by decide +kernel) (by decide +kernel)), mv_in 5 (by decide +kernel) (by decide +kernel), by decide +kernel, by decide +kernel⟩
def md_G_begin : mv_D := (⟨"BlockFinder$Groups", "begin", "(LBlockFinder$Rectangles;I)V"⟩, prog_2_method_5_code, 4, none, { frames := 1, cells := 0, slots := 0, locals := 25 })
theorem mm_G_begin : mv_Md md_G_begin := ⟨mv_good (mv_in 230 (by decide +kernel) (by decide +kernel)), mv_in 5 (by decide +kernel) (by decide +kernel), by decide +kernel, by decide +kernel⟩
def md_G_extend : mv_D := (⟨"BlockFinder$Groups", "extend", "(ILBlockFinder$Rectangles;I)V"⟩, prog_2_method_6_code, 4, none, { frames := 2, cells := 0, slots := 0, locals := 44 })
theorem mm_G_extend : mv_Md md_G_extend := ⟨mv_good (mv_in 235 (by decide +kernel) (by decide +kernel)), mv_in 5 (by decide +kernel) (by decide +kernel), by decide +kernel, by decide +kernel⟩
def md_G_putInOrder : mv_D := (⟨"BlockFinder$Groups", "putInOrder", "(Z)V"⟩, prog_2_method_7_code, 4, none, { frames := 2, cells := 0, slots := 0, locals := 47 })
theorem mm_G_putInOrder : mv_Md md_G_putInOrder := ⟨mv_good (mv_in 291 (by decide +kernel) (by decide +kernel)), mv_in 5 (by decide +kernel) (by decide +kernel), by decide +kernel, by decide +kernel⟩
def md_G_comesBefore : mv_D := (⟨"BlockFinder$Groups", "comesBefore", "(IIZ)Z"⟩, prog_2_method_8_code, 6, some .boolean, { frames := 1, cells := 0, slots := 0, locals := 22 })
theorem mm_G_comesBefore : mv_Md md_G_comesBefore := ⟨mv_good (mv_in 296 (by decide +kernel) (by decide +kernel)), mv_in 5 (by decide +kernel) (by decide +kernel), by decide +kernel, by decide +kernel⟩
def md_R_init : mv_D := (⟨"BlockFinder$Rectangles", "<init>", "(I)V"⟩, prog_3_method_1_code, 3, none, { frames := 1, cells := 4, slots := 256, locals := 21 })
theorem mm_R_init : mv_Md md_R_init := ⟨mv_good (mv_in 19 (by decide +kernel) (by decide +kernel)), mv_in 2 (by decide +kernel) (by decide +kernel), by decide +kernel, by decide +kernel⟩
def md_R_has : mv_D := (⟨"BlockFinder$Rectangles", "has", "(I)Z"⟩, prog_3_method_2_code, 2, some .boolean, { frames := 0, cells := 0, slots := 0, locals := 0 })
theorem mm_R_has : mv_Md md_R_has := ⟨mv_good (mv_in 310 (by decide +kernel) (by decide +kernel)), mv_in 2 (by decide +kernel) (by decide +kernel), by decide +kernel, by decide +kernel⟩
def md_R_add : mv_D := (⟨"BlockFinder$Rectangles", "add", "(IIII)I"⟩, prog_3_method_3_code, 6, some .int, { frames := 0, cells := 0, slots := 0, locals := 0 })
theorem mm_R_add : mv_Md md_R_add := ⟨mv_good (mv_in 171 (by decide +kernel) (by decide +kernel)), mv_in 2 (by decide +kernel) (by decide +kernel), by decide +kernel, by decide +kernel⟩
def md_R_stretchOver : mv_D := (⟨"BlockFinder$Rectangles", "stretchOver", "(ILBlockFinder$Rectangles;I)V"⟩, prog_3_method_4_code, 4, none, { frames := 1, cells := 0, slots := 0, locals := 21 })
theorem mm_R_stretchOver : mv_Md md_R_stretchOver := ⟨mv_good (mv_in 239 (by decide +kernel) (by decide +kernel)), mv_in 2 (by decide +kernel) (by decide +kernel), by decide +kernel, by decide +kernel⟩
def md_R_encloses : mv_D := (⟨"BlockFinder$Rectangles", "encloses", "(ILBlockFinder$Rectangles;I)Z"⟩, prog_3_method_5_code, 4, some .boolean, { frames := 0, cells := 0, slots := 0, locals := 0 })
theorem mm_R_encloses : mv_Md md_R_encloses := ⟨mv_good (mv_in 275 (by decide +kernel) (by decide +kernel)), mv_in 2 (by decide +kernel) (by decide +kernel), by decide +kernel, by decide +kernel⟩
def md_R_area : mv_D := (⟨"BlockFinder$Rectangles", "area", "(I)I"⟩, prog_3_method_6_code, 2, some .int, { frames := 0, cells := 0, slots := 0, locals := 0 })
theorem mm_R_area : mv_Md md_R_area := ⟨mv_good (mv_in 287 (by decide +kernel) (by decide +kernel)), mv_in 2 (by decide +kernel) (by decide +kernel), by decide +kernel, by decide +kernel⟩
def md_R_side : mv_D := (⟨"BlockFinder$Rectangles", "side", "(II)I"⟩, prog_3_method_7_code, 3, some .int, { frames := 0, cells := 0, slots := 0, locals := 0 })
theorem mm_R_side : mv_Md md_R_side := ⟨mv_good (mv_in 317 (by decide +kernel) (by decide +kernel)), mv_in 2 (by decide +kernel) (by decide +kernel), by decide +kernel, by decide +kernel⟩
def md_R_leftEnd : mv_D := (⟨"BlockFinder$Rectangles", "leftEnd", "(IZ)I"⟩, prog_3_method_8_code, 3, some .int, { frames := 0, cells := 0, slots := 0, locals := 0 })
theorem mm_R_leftEnd : mv_Md md_R_leftEnd := ⟨mv_good (mv_in 210 (by decide +kernel) (by decide +kernel)), mv_in 2 (by decide +kernel) (by decide +kernel), by decide +kernel, by decide +kernel⟩
def md_R_upperEnd : mv_D := (⟨"BlockFinder$Rectangles", "upperEnd", "(IZ)I"⟩, prog_3_method_9_code, 3, some .int, { frames := 0, cells := 0, slots := 0, locals := 0 })
theorem mm_R_upperEnd : mv_Md md_R_upperEnd := ⟨mv_good (mv_in 205 (by decide +kernel) (by decide +kernel)), mv_in 2 (by decide +kernel) (by decide +kernel), by decide +kernel, by decide +kernel⟩
def md_R_rightEnd : mv_D := (⟨"BlockFinder$Rectangles", "rightEnd", "(IZ)I"⟩, prog_3_method_10_code, 3, some .int, { frames := 0, cells := 0, slots := 0, locals := 0 })
theorem mm_R_rightEnd : mv_Md md_R_rightEnd := ⟨mv_good (mv_in 214 (by decide +kernel) (by decide +kernel)), mv_in 2 (by decide +kernel) (by decide +kernel), by decide +kernel, by decide +kernel⟩
def md_R_lowerEnd : mv_D := (⟨"BlockFinder$Rectangles", "lowerEnd", "(IZ)I"⟩, prog_3_method_11_code, 3, some .int, { frames := 0, cells := 0, slots := 0, locals := 0 })
theorem mm_R_lowerEnd : mv_Md md_R_lowerEnd := ⟨mv_good (mv_in 201 (by decide +kernel) (by decide +kernel)), mv_in 2 (by decide +kernel) (by decide +kernel), by decide +kernel, by decide +kernel⟩
def md_R_height : mv_D := (⟨"BlockFinder$Rectangles", "height", "(IZ)I"⟩, prog_3_method_12_code, 3, some .int, { frames := 1, cells := 0, slots := 0, locals := 22 })
theorem mm_R_height : mv_Md md_R_height := ⟨mv_good (mv_in 197 (by decide +kernel) (by decide +kernel)), mv_in 2 (by decide +kernel) (by decide +kernel), by decide +kernel, by decide +kernel⟩
def md_R_areNearAsBoxes : mv_D := (⟨"BlockFinder$Rectangles", "areNearAsBoxes", "(IIZ)Z"⟩, prog_3_method_13_code, 8, some .boolean, { frames := 2, cells := 0, slots := 0, locals := 45 })
theorem mm_R_areNearAsBoxes : mv_Md md_R_areNearAsBoxes := ⟨mv_good (mv_in 193 (by decide +kernel) (by decide +kernel)), mv_in 2 (by decide +kernel) (by decide +kernel), by decide +kernel, by decide +kernel⟩
def md_R_areNearAsLines : mv_D := (⟨"BlockFinder$Rectangles", "areNearAsLines", "(IIZ)Z"⟩, prog_3_method_14_code, 7, some .boolean, { frames := 2, cells := 0, slots := 0, locals := 45 })
theorem mm_R_areNearAsLines : mv_Md md_R_areNearAsLines := ⟨mv_good (mv_in 251 (by decide +kernel) (by decide +kernel)), mv_in 2 (by decide +kernel) (by decide +kernel), by decide +kernel, by decide +kernel⟩
def md_R_gapDownwards : mv_D := (⟨"BlockFinder$Rectangles", "gapDownwards", "(IIZ)I"⟩, prog_3_method_15_code, 4, some .int, { frames := 1, cells := 0, slots := 0, locals := 22 })
theorem mm_R_gapDownwards : mv_Md md_R_gapDownwards := ⟨mv_good (mv_in 218 (by decide +kernel) (by decide +kernel)), mv_in 2 (by decide +kernel) (by decide +kernel), by decide +kernel, by decide +kernel⟩
def md_S_init : mv_D := (⟨"BlockFinder$Sets", "<init>", "()V"⟩, prog_4_method_1_code, 1, none, { frames := 1, cells := 1, slots := 64, locals := 21 })
theorem mm_S_init : mv_Md md_S_init := ⟨mv_good (mv_in 55 (by decide +kernel) (by decide +kernel)), mv_in 4 (by decide +kernel) (by decide +kernel), by decide +kernel, by decide +kernel⟩
def md_S_scatter : mv_D := (⟨"BlockFinder$Sets", "scatter", "(I)V"⟩, prog_4_method_2_code, 3, none, { frames := 1, cells := 0, slots := 0, locals := 21 })
theorem mm_S_scatter : mv_Md md_S_scatter := ⟨mv_good (mv_in 187 (by decide +kernel) (by decide +kernel)), mv_in 4 (by decide +kernel) (by decide +kernel), by decide +kernel, by decide +kernel⟩
def md_S_join : mv_D := (⟨"BlockFinder$Sets", "join", "(II)V"⟩, prog_4_method_3_code, 6, none, { frames := 1, cells := 0, slots := 0, locals := 21 })
theorem mm_S_join : mv_Md md_S_join := ⟨mv_good (mv_in 222 (by decide +kernel) (by decide +kernel)), mv_in 4 (by decide +kernel) (by decide +kernel), by decide +kernel, by decide +kernel⟩
def md_LW_cell : mv_D := (⟨"BlockFinderLaw", "cell", "([II)I"⟩, method_2_code, 2, some .int, { frames := 0, cells := 0, slots := 0, locals := 0 })
theorem mm_LW_cell : mv_Md md_LW_cell := ⟨mv_good (mv_in 353 (by decide +kernel) (by decide +kernel)), mv_in 0 (by decide +kernel) (by decide +kernel), by decide +kernel, by decide +kernel⟩
def md_law : mv_D := (⟨"BlockFinderLaw", "law", "([I)Z"⟩, code, 4, some .boolean, room_1)
theorem f_R_21 : mv_F "BlockFinder$Rectangles" 21 ki_R 0 := ⟨by decide, nR_R, nT_R, 5, rfl, by decide, ni_R, mv_in 24 (by decide +kernel) (by decide +kernel)⟩
theorem g_R_21 : mv_Pf "BlockFinder$Rectangles" 21 ki_R 0 true (.array .int) := ⟨by decide, nR_R, nT_R, 5, ny_R, rfl, by decide, ni_R, mv_in 24 (by decide +kernel) (by decide +kernel), nt_R, nn_R, rfl, by decide +kernel, fun _ => rfl⟩
theorem f_G_60 : mv_F "BlockFinder$Groups" 60 ki_R 0 := ⟨by decide, nR_R, nT_R, 5, rfl, by decide, ni_R, mv_in 25 (by decide +kernel) (by decide +kernel)⟩
theorem f_BF_187 : mv_F "BlockFinder" 187 ki_R 0 := ⟨by decide, nR_R, nT_R, 5, rfl, by decide, ni_R, mv_in 26 (by decide +kernel) (by decide +kernel)⟩
theorem f_R_25 : mv_F "BlockFinder$Rectangles" 25 ki_R 1 := ⟨by decide, nR_R, nT_R, 5, rfl, by decide, ni_R, mv_in 27 (by decide +kernel) (by decide +kernel)⟩
theorem g_R_25 : mv_Pf "BlockFinder$Rectangles" 25 ki_R 1 true (.array .int) := ⟨by decide, nR_R, nT_R, 5, ny_R, rfl, by decide, ni_R, mv_in 27 (by decide +kernel) (by decide +kernel), nt_R, nn_R, rfl, by decide +kernel, fun _ => rfl⟩
theorem f_G_63 : mv_F "BlockFinder$Groups" 63 ki_R 1 := ⟨by decide, nR_R, nT_R, 5, rfl, by decide, ni_R, mv_in 28 (by decide +kernel) (by decide +kernel)⟩
theorem f_BF_193 : mv_F "BlockFinder" 193 ki_R 1 := ⟨by decide, nR_R, nT_R, 5, rfl, by decide, ni_R, mv_in 29 (by decide +kernel) (by decide +kernel)⟩
theorem f_R_28 : mv_F "BlockFinder$Rectangles" 28 ki_R 2 := ⟨by decide, nR_R, nT_R, 5, rfl, by decide, ni_R, mv_in 30 (by decide +kernel) (by decide +kernel)⟩
theorem g_R_28 : mv_Pf "BlockFinder$Rectangles" 28 ki_R 2 true (.array .int) := ⟨by decide, nR_R, nT_R, 5, ny_R, rfl, by decide, ni_R, mv_in 30 (by decide +kernel) (by decide +kernel), nt_R, nn_R, rfl, by decide +kernel, fun _ => rfl⟩
theorem f_G_66 : mv_F "BlockFinder$Groups" 66 ki_R 2 := ⟨by decide, nR_R, nT_R, 5, rfl, by decide, ni_R, mv_in 31 (by decide +kernel) (by decide +kernel)⟩
theorem f_BF_190 : mv_F "BlockFinder" 190 ki_R 2 := ⟨by decide, nR_R, nT_R, 5, rfl, by decide, ni_R, mv_in 32 (by decide +kernel) (by decide +kernel)⟩
theorem f_R_31 : mv_F "BlockFinder$Rectangles" 31 ki_R 3 := ⟨by decide, nR_R, nT_R, 5, rfl, by decide, ni_R, mv_in 33 (by decide +kernel) (by decide +kernel)⟩
theorem g_R_31 : mv_Pf "BlockFinder$Rectangles" 31 ki_R 3 true (.array .int) := ⟨by decide, nR_R, nT_R, 5, ny_R, rfl, by decide, ni_R, mv_in 33 (by decide +kernel) (by decide +kernel), nt_R, nn_R, rfl, by decide +kernel, fun _ => rfl⟩
theorem f_G_69 : mv_F "BlockFinder$Groups" 69 ki_R 3 := ⟨by decide, nR_R, nT_R, 5, rfl, by decide, ni_R, mv_in 34 (by decide +kernel) (by decide +kernel)⟩
theorem f_BF_196 : mv_F "BlockFinder" 196 ki_R 3 := ⟨by decide, nR_R, nT_R, 5, rfl, by decide, ni_R, mv_in 35 (by decide +kernel) (by decide +kernel)⟩
theorem f_R_9 : mv_F "BlockFinder$Rectangles" 9 ki_R 4 := ⟨by decide, nR_R, nT_R, 5, rfl, by decide, ni_R, mv_in 36 (by decide +kernel) (by decide +kernel)⟩
theorem g_R_9 : mv_Pf "BlockFinder$Rectangles" 9 ki_R 4 false (.int) := ⟨by decide, nR_R, nT_R, 5, ny_R, rfl, by decide, ni_R, mv_in 36 (by decide +kernel) (by decide +kernel), nt_R, nn_R, rfl, by decide +kernel, fun h => by cases h⟩
theorem f_G_39 : mv_F "BlockFinder$Groups" 39 ki_R 4 := ⟨by decide, nR_R, nT_R, 5, rfl, by decide, ni_R, mv_in 37 (by decide +kernel) (by decide +kernel)⟩
theorem g_G_39 : mv_Pf "BlockFinder$Groups" 39 ki_R 4 false (.int) := ⟨by decide, nR_R, nT_R, 5, ny_R, rfl, by decide, ni_R, mv_in 37 (by decide +kernel) (by decide +kernel), nt_R, nn_R, rfl, by decide +kernel, fun h => by cases h⟩
theorem f_BF_110 : mv_F "BlockFinder" 110 ki_R 4 := ⟨by decide, nR_R, nT_R, 5, rfl, by decide, ni_R, mv_in 38 (by decide +kernel) (by decide +kernel)⟩
theorem g_BF_110 : mv_Pf "BlockFinder" 110 ki_R 4 false (.int) := ⟨by decide, nR_R, nT_R, 5, ny_R, rfl, by decide, ni_R, mv_in 38 (by decide +kernel) (by decide +kernel), nt_R, nn_R, rfl, by decide +kernel, fun h => by cases h⟩
theorem f_S_9 : mv_F "BlockFinder$Sets" 9 ki_S 0 := ⟨by decide, nR_S, nT_S, 3, rfl, by decide, ni_S, mv_in 57 (by decide +kernel) (by decide +kernel)⟩
theorem g_S_9 : mv_Pf "BlockFinder$Sets" 9 ki_S 0 true (.array .int) := ⟨by decide, nR_S, nT_S, 3, ny_S, rfl, by decide, ni_S, mv_in 57 (by decide +kernel) (by decide +kernel), nt_S, nn_S, rfl, by decide +kernel, fun _ => rfl⟩
theorem f_G_47 : mv_F "BlockFinder$Groups" 47 ki_S 0 := ⟨by decide, nR_S, nT_S, 3, rfl, by decide, ni_S, mv_in 58 (by decide +kernel) (by decide +kernel)⟩
theorem f_S_15 : mv_F "BlockFinder$Sets" 15 ki_S 1 := ⟨by decide, nR_S, nT_S, 3, rfl, by decide, ni_S, mv_in 59 (by decide +kernel) (by decide +kernel)⟩
theorem g_S_15 : mv_Pf "BlockFinder$Sets" 15 ki_S 1 false (.int) := ⟨by decide, nR_S, nT_S, 3, ny_S, rfl, by decide, ni_S, mv_in 59 (by decide +kernel) (by decide +kernel), nt_S, nn_S, rfl, by decide +kernel, fun h => by cases h⟩
theorem f_S_19 : mv_F "BlockFinder$Sets" 19 ki_S 2 := ⟨by decide, nR_S, nT_S, 3, rfl, by decide, ni_S, mv_in 60 (by decide +kernel) (by decide +kernel)⟩
theorem g_S_19 : mv_Pf "BlockFinder$Sets" 19 ki_S 2 false (.int) := ⟨by decide, nR_S, nT_S, 3, ny_S, rfl, by decide, ni_S, mv_in 60 (by decide +kernel) (by decide +kernel), nt_S, nn_S, rfl, by decide +kernel, fun h => by cases h⟩
theorem f_BF_80 : mv_F "BlockFinder" 80 ki_S 2 := ⟨by decide, nR_S, nT_S, 3, rfl, by decide, ni_S, mv_in 61 (by decide +kernel) (by decide +kernel)⟩
theorem f_G_14 : mv_F "BlockFinder$Groups" 14 ki_G 0 := ⟨by decide, nR_G, nT_G, 7, rfl, by decide, ni_G, mv_in 77 (by decide +kernel) (by decide +kernel)⟩
theorem g_G_14 : mv_Pf "BlockFinder$Groups" 14 ki_G 0 true (.object "BlockFinder$Rectangles") := ⟨by decide, nR_G, nT_G, 7, ny_G, rfl, by decide, ni_G, mv_in 77 (by decide +kernel) (by decide +kernel), nt_G, nn_G, rfl, by decide +kernel, fun _ => rfl⟩
theorem f_BF_90 : mv_F "BlockFinder" 90 ki_G 0 := ⟨by decide, nR_G, nT_G, 7, rfl, by decide, ni_G, mv_in 78 (by decide +kernel) (by decide +kernel)⟩
theorem f_G_20 : mv_F "BlockFinder$Groups" 20 ki_G 1 := ⟨by decide, nR_G, nT_G, 7, rfl, by decide, ni_G, mv_in 79 (by decide +kernel) (by decide +kernel)⟩
theorem g_G_20 : mv_Pf "BlockFinder$Groups" 20 ki_G 1 true (.array .int) := ⟨by decide, nR_G, nT_G, 7, ny_G, rfl, by decide, ni_G, mv_in 79 (by decide +kernel) (by decide +kernel), nt_G, nn_G, rfl, by decide +kernel, fun _ => rfl⟩
theorem f_BF_127 : mv_F "BlockFinder" 127 ki_G 1 := ⟨by decide, nR_G, nT_G, 7, rfl, by decide, ni_G, mv_in 80 (by decide +kernel) (by decide +kernel)⟩
theorem f_G_24 : mv_F "BlockFinder$Groups" 24 ki_G 2 := ⟨by decide, nR_G, nT_G, 7, rfl, by decide, ni_G, mv_in 81 (by decide +kernel) (by decide +kernel)⟩
theorem g_G_24 : mv_Pf "BlockFinder$Groups" 24 ki_G 2 true (.array .int) := ⟨by decide, nR_G, nT_G, 7, ny_G, rfl, by decide, ni_G, mv_in 81 (by decide +kernel) (by decide +kernel), nt_G, nn_G, rfl, by decide +kernel, fun _ => rfl⟩
theorem f_BF_137 : mv_F "BlockFinder" 137 ki_G 2 := ⟨by decide, nR_G, nT_G, 7, rfl, by decide, ni_G, mv_in 82 (by decide +kernel) (by decide +kernel)⟩
theorem f_G_27 : mv_F "BlockFinder$Groups" 27 ki_G 3 := ⟨by decide, nR_G, nT_G, 7, rfl, by decide, ni_G, mv_in 83 (by decide +kernel) (by decide +kernel)⟩
theorem g_G_27 : mv_Pf "BlockFinder$Groups" 27 ki_G 3 true (.array .int) := ⟨by decide, nR_G, nT_G, 7, ny_G, rfl, by decide, ni_G, mv_in 83 (by decide +kernel) (by decide +kernel), nt_G, nn_G, rfl, by decide +kernel, fun _ => rfl⟩
theorem f_BF_100 : mv_F "BlockFinder" 100 ki_G 3 := ⟨by decide, nR_G, nT_G, 7, rfl, by decide, ni_G, mv_in 84 (by decide +kernel) (by decide +kernel)⟩
theorem f_G_30 : mv_F "BlockFinder$Groups" 30 ki_G 4 := ⟨by decide, nR_G, nT_G, 7, rfl, by decide, ni_G, mv_in 85 (by decide +kernel) (by decide +kernel)⟩
theorem g_G_30 : mv_Pf "BlockFinder$Groups" 30 ki_G 4 true (.array .int) := ⟨by decide, nR_G, nT_G, 7, ny_G, rfl, by decide, ni_G, mv_in 85 (by decide +kernel) (by decide +kernel), nt_G, nn_G, rfl, by decide +kernel, fun _ => rfl⟩
theorem f_BF_171 : mv_F "BlockFinder" 171 ki_G 4 := ⟨by decide, nR_G, nT_G, 7, rfl, by decide, ni_G, mv_in 86 (by decide +kernel) (by decide +kernel)⟩
theorem f_G_33 : mv_F "BlockFinder$Groups" 33 ki_G 5 := ⟨by decide, nR_G, nT_G, 7, rfl, by decide, ni_G, mv_in 87 (by decide +kernel) (by decide +kernel)⟩
theorem g_G_33 : mv_Pf "BlockFinder$Groups" 33 ki_G 5 true (.array .int) := ⟨by decide, nR_G, nT_G, 7, ny_G, rfl, by decide, ni_G, mv_in 87 (by decide +kernel) (by decide +kernel), nt_G, nn_G, rfl, by decide +kernel, fun _ => rfl⟩
theorem f_BF_124 : mv_F "BlockFinder" 124 ki_G 5 := ⟨by decide, nR_G, nT_G, 7, rfl, by decide, ni_G, mv_in 88 (by decide +kernel) (by decide +kernel)⟩
theorem f_G_36 : mv_F "BlockFinder$Groups" 36 ki_G 6 := ⟨by decide, nR_G, nT_G, 7, rfl, by decide, ni_G, mv_in 89 (by decide +kernel) (by decide +kernel)⟩
theorem g_G_36 : mv_Pf "BlockFinder$Groups" 36 ki_G 6 true (.array .int) := ⟨by decide, nR_G, nT_G, 7, ny_G, rfl, by decide, ni_G, mv_in 89 (by decide +kernel) (by decide +kernel), nt_G, nn_G, rfl, by decide +kernel, fun _ => rfl⟩
theorem f_BF_111 : mv_F "BlockFinder" 111 ki_G 6 := ⟨by decide, nR_G, nT_G, 7, rfl, by decide, ni_G, mv_in 90 (by decide +kernel) (by decide +kernel)⟩
theorem f_BF_65 : mv_F "BlockFinder" 65 ki_BF 0 := ⟨by decide, nR_BF, nT_BF, 14, rfl, by decide, ni_BF, mv_in 113 (by decide +kernel) (by decide +kernel)⟩
theorem g_BF_65 : mv_Pf "BlockFinder" 65 ki_BF 0 true (.int) := ⟨by decide, nR_BF, nT_BF, 14, ny_BF, rfl, by decide, ni_BF, mv_in 113 (by decide +kernel) (by decide +kernel), nt_BF, nn_BF, rfl, by decide +kernel, fun _ => rfl⟩
theorem f_BF_69 : mv_F "BlockFinder" 69 ki_BF 1 := ⟨by decide, nR_BF, nT_BF, 14, rfl, by decide, ni_BF, mv_in 114 (by decide +kernel) (by decide +kernel)⟩
theorem g_BF_69 : mv_Pf "BlockFinder" 69 ki_BF 1 true (.int) := ⟨by decide, nR_BF, nT_BF, 14, ny_BF, rfl, by decide, ni_BF, mv_in 114 (by decide +kernel) (by decide +kernel), nt_BF, nn_BF, rfl, by decide +kernel, fun _ => rfl⟩
theorem f_BF_14 : mv_F "BlockFinder" 14 ki_BF 2 := ⟨by decide, nR_BF, nT_BF, 14, rfl, by decide, ni_BF, mv_in 115 (by decide +kernel) (by decide +kernel)⟩
theorem g_BF_14 : mv_Pf "BlockFinder" 14 ki_BF 2 true (.object "BlockFinder$Rectangles") := ⟨by decide, nR_BF, nT_BF, 14, ny_BF, rfl, by decide, ni_BF, mv_in 115 (by decide +kernel) (by decide +kernel), nt_BF, nn_BF, rfl, by decide +kernel, fun _ => rfl⟩
theorem f_BF_18 : mv_F "BlockFinder" 18 ki_BF 3 := ⟨by decide, nR_BF, nT_BF, 14, rfl, by decide, ni_BF, mv_in 116 (by decide +kernel) (by decide +kernel)⟩
theorem g_BF_18 : mv_Pf "BlockFinder" 18 ki_BF 3 true (.object "BlockFinder$Rectangles") := ⟨by decide, nR_BF, nT_BF, 14, ny_BF, rfl, by decide, ni_BF, mv_in 116 (by decide +kernel) (by decide +kernel), nt_BF, nn_BF, rfl, by decide +kernel, fun _ => rfl⟩
theorem f_BF_24 : mv_F "BlockFinder" 24 ki_BF 4 := ⟨by decide, nR_BF, nT_BF, 14, rfl, by decide, ni_BF, mv_in 117 (by decide +kernel) (by decide +kernel)⟩
theorem g_BF_24 : mv_Pf "BlockFinder" 24 ki_BF 4 true (.object "BlockFinder$Sets") := ⟨by decide, nR_BF, nT_BF, 14, ny_BF, rfl, by decide, ni_BF, mv_in 117 (by decide +kernel) (by decide +kernel), nt_BF, nn_BF, rfl, by decide +kernel, fun _ => rfl⟩
theorem f_BF_28 : mv_F "BlockFinder" 28 ki_BF 5 := ⟨by decide, nR_BF, nT_BF, 14, rfl, by decide, ni_BF, mv_in 118 (by decide +kernel) (by decide +kernel)⟩
theorem g_BF_28 : mv_Pf "BlockFinder" 28 ki_BF 5 true (.object "BlockFinder$Sets") := ⟨by decide, nR_BF, nT_BF, 14, ny_BF, rfl, by decide, ni_BF, mv_in 118 (by decide +kernel) (by decide +kernel), nt_BF, nn_BF, rfl, by decide +kernel, fun _ => rfl⟩
theorem f_BF_31 : mv_F "BlockFinder" 31 ki_BF 6 := ⟨by decide, nR_BF, nT_BF, 14, rfl, by decide, ni_BF, mv_in 119 (by decide +kernel) (by decide +kernel)⟩
theorem g_BF_31 : mv_Pf "BlockFinder" 31 ki_BF 6 true (.object "BlockFinder$Sets") := ⟨by decide, nR_BF, nT_BF, 14, ny_BF, rfl, by decide, ni_BF, mv_in 119 (by decide +kernel) (by decide +kernel), nt_BF, nn_BF, rfl, by decide +kernel, fun _ => rfl⟩
theorem f_BF_37 : mv_F "BlockFinder" 37 ki_BF 7 := ⟨by decide, nR_BF, nT_BF, 14, rfl, by decide, ni_BF, mv_in 120 (by decide +kernel) (by decide +kernel)⟩
theorem g_BF_37 : mv_Pf "BlockFinder" 37 ki_BF 7 true (.object "BlockFinder$Groups") := ⟨by decide, nR_BF, nT_BF, 14, ny_BF, rfl, by decide, ni_BF, mv_in 120 (by decide +kernel) (by decide +kernel), nt_BF, nn_BF, rfl, by decide +kernel, fun _ => rfl⟩
theorem f_BF_41 : mv_F "BlockFinder" 41 ki_BF 8 := ⟨by decide, nR_BF, nT_BF, 14, rfl, by decide, ni_BF, mv_in 121 (by decide +kernel) (by decide +kernel)⟩
theorem g_BF_41 : mv_Pf "BlockFinder" 41 ki_BF 8 true (.object "BlockFinder$Groups") := ⟨by decide, nR_BF, nT_BF, 14, ny_BF, rfl, by decide, ni_BF, mv_in 121 (by decide +kernel) (by decide +kernel), nt_BF, nn_BF, rfl, by decide +kernel, fun _ => rfl⟩
theorem f_BF_44 : mv_F "BlockFinder" 44 ki_BF 9 := ⟨by decide, nR_BF, nT_BF, 14, rfl, by decide, ni_BF, mv_in 122 (by decide +kernel) (by decide +kernel)⟩
theorem g_BF_44 : mv_Pf "BlockFinder" 44 ki_BF 9 true (.array .int) := ⟨by decide, nR_BF, nT_BF, 14, ny_BF, rfl, by decide, ni_BF, mv_in 122 (by decide +kernel) (by decide +kernel), nt_BF, nn_BF, rfl, by decide +kernel, fun _ => rfl⟩
theorem f_BF_48 : mv_F "BlockFinder" 48 ki_BF 10 := ⟨by decide, nR_BF, nT_BF, 14, rfl, by decide, ni_BF, mv_in 123 (by decide +kernel) (by decide +kernel)⟩
theorem g_BF_48 : mv_Pf "BlockFinder" 48 ki_BF 10 true (.array .int) := ⟨by decide, nR_BF, nT_BF, 14, ny_BF, rfl, by decide, ni_BF, mv_in 123 (by decide +kernel) (by decide +kernel), nt_BF, nn_BF, rfl, by decide +kernel, fun _ => rfl⟩
theorem f_BF_51 : mv_F "BlockFinder" 51 ki_BF 11 := ⟨by decide, nR_BF, nT_BF, 14, rfl, by decide, ni_BF, mv_in 124 (by decide +kernel) (by decide +kernel)⟩
theorem g_BF_51 : mv_Pf "BlockFinder" 51 ki_BF 11 true (.array .int) := ⟨by decide, nR_BF, nT_BF, 14, ny_BF, rfl, by decide, ni_BF, mv_in 124 (by decide +kernel) (by decide +kernel), nt_BF, nn_BF, rfl, by decide +kernel, fun _ => rfl⟩
theorem f_BF_54 : mv_F "BlockFinder" 54 ki_BF 12 := ⟨by decide, nR_BF, nT_BF, 14, rfl, by decide, ni_BF, mv_in 125 (by decide +kernel) (by decide +kernel)⟩
theorem g_BF_54 : mv_Pf "BlockFinder" 54 ki_BF 12 true (.array .int) := ⟨by decide, nR_BF, nT_BF, 14, ny_BF, rfl, by decide, ni_BF, mv_in 125 (by decide +kernel) (by decide +kernel), nt_BF, nn_BF, rfl, by decide +kernel, fun _ => rfl⟩
theorem f_BF_57 : mv_F "BlockFinder" 57 ki_BF 13 := ⟨by decide, nR_BF, nT_BF, 14, rfl, by decide, ni_BF, mv_in 126 (by decide +kernel) (by decide +kernel)⟩
theorem g_BF_57 : mv_Pf "BlockFinder" 57 ki_BF 13 false (.boolean) := ⟨by decide, nR_BF, nT_BF, 14, ny_BF, rfl, by decide, ni_BF, mv_in 126 (by decide +kernel) (by decide +kernel), nt_BF, nn_BF, rfl, by decide +kernel, fun h => by cases h⟩
theorem f_RM_66 : mv_F "BlockFinderModel" 66 ki_RM 0 := ⟨by decide, nR_RM, nT_RM, 29, rfl, by decide, ni_RM, mv_in 360 (by decide +kernel) (by decide +kernel)⟩
theorem g_RM_66 : mv_Pf "BlockFinderModel" 66 ki_RM 0 false (.int) := ⟨by decide, nR_RM, nT_RM, 29, ny_RM, rfl, by decide, ni_RM, mv_in 360 (by decide +kernel) (by decide +kernel), nt_RM, nn_RM, rfl, by decide +kernel, fun h => by cases h⟩
theorem f_RM_59 : mv_F "BlockFinderModel" 59 ki_RM 1 := ⟨by decide, nR_RM, nT_RM, 29, rfl, by decide, ni_RM, mv_in 361 (by decide +kernel) (by decide +kernel)⟩
theorem g_RM_59 : mv_Pf "BlockFinderModel" 59 ki_RM 1 true (.int) := ⟨by decide, nR_RM, nT_RM, 29, ny_RM, rfl, by decide, ni_RM, mv_in 361 (by decide +kernel) (by decide +kernel), nt_RM, nn_RM, rfl, by decide +kernel, fun _ => rfl⟩
theorem f_RM_63 : mv_F "BlockFinderModel" 63 ki_RM 2 := ⟨by decide, nR_RM, nT_RM, 29, rfl, by decide, ni_RM, mv_in 362 (by decide +kernel) (by decide +kernel)⟩
theorem g_RM_63 : mv_Pf "BlockFinderModel" 63 ki_RM 2 true (.int) := ⟨by decide, nR_RM, nT_RM, 29, ny_RM, rfl, by decide, ni_RM, mv_in 362 (by decide +kernel) (by decide +kernel), nt_RM, nn_RM, rfl, by decide +kernel, fun _ => rfl⟩
theorem f_RM_73 : mv_F "BlockFinderModel" 73 ki_RM 3 := ⟨by decide, nR_RM, nT_RM, 29, rfl, by decide, ni_RM, mv_in 363 (by decide +kernel) (by decide +kernel)⟩
theorem g_RM_73 : mv_Pf "BlockFinderModel" 73 ki_RM 3 false (.int) := ⟨by decide, nR_RM, nT_RM, 29, ny_RM, rfl, by decide, ni_RM, mv_in 363 (by decide +kernel) (by decide +kernel), nt_RM, nn_RM, rfl, by decide +kernel, fun h => by cases h⟩
theorem f_RM_7 : mv_F "BlockFinderModel" 7 ki_RM 4 := ⟨by decide, nR_RM, nT_RM, 29, rfl, by decide, ni_RM, mv_in 364 (by decide +kernel) (by decide +kernel)⟩
theorem g_RM_7 : mv_Pf "BlockFinderModel" 7 ki_RM 4 true (.array .int) := ⟨by decide, nR_RM, nT_RM, 29, ny_RM, rfl, by decide, ni_RM, mv_in 364 (by decide +kernel) (by decide +kernel), nt_RM, nn_RM, rfl, by decide +kernel, fun _ => rfl⟩
theorem f_RM_76 : mv_F "BlockFinderModel" 76 ki_RM 5 := ⟨by decide, nR_RM, nT_RM, 29, rfl, by decide, ni_RM, mv_in 365 (by decide +kernel) (by decide +kernel)⟩
theorem g_RM_76 : mv_Pf "BlockFinderModel" 76 ki_RM 5 false (.int) := ⟨by decide, nR_RM, nT_RM, 29, ny_RM, rfl, by decide, ni_RM, mv_in 365 (by decide +kernel) (by decide +kernel), nt_RM, nn_RM, rfl, by decide +kernel, fun h => by cases h⟩
theorem f_RM_13 : mv_F "BlockFinderModel" 13 ki_RM 6 := ⟨by decide, nR_RM, nT_RM, 29, rfl, by decide, ni_RM, mv_in 366 (by decide +kernel) (by decide +kernel)⟩
theorem g_RM_13 : mv_Pf "BlockFinderModel" 13 ki_RM 6 true (.array .int) := ⟨by decide, nR_RM, nT_RM, 29, ny_RM, rfl, by decide, ni_RM, mv_in 366 (by decide +kernel) (by decide +kernel), nt_RM, nn_RM, rfl, by decide +kernel, fun _ => rfl⟩
theorem f_RM_79 : mv_F "BlockFinderModel" 79 ki_RM 7 := ⟨by decide, nR_RM, nT_RM, 29, rfl, by decide, ni_RM, mv_in 367 (by decide +kernel) (by decide +kernel)⟩
theorem g_RM_79 : mv_Pf "BlockFinderModel" 79 ki_RM 7 false (.boolean) := ⟨by decide, nR_RM, nT_RM, 29, ny_RM, rfl, by decide, ni_RM, mv_in 367 (by decide +kernel) (by decide +kernel), nt_RM, nn_RM, rfl, by decide +kernel, fun h => by cases h⟩
theorem f_RM_16 : mv_F "BlockFinderModel" 16 ki_RM 8 := ⟨by decide, nR_RM, nT_RM, 29, rfl, by decide, ni_RM, mv_in 368 (by decide +kernel) (by decide +kernel)⟩
theorem g_RM_16 : mv_Pf "BlockFinderModel" 16 ki_RM 8 true (.array .int) := ⟨by decide, nR_RM, nT_RM, 29, ny_RM, rfl, by decide, ni_RM, mv_in 368 (by decide +kernel) (by decide +kernel), nt_RM, nn_RM, rfl, by decide +kernel, fun _ => rfl⟩
theorem f_RM_113 : mv_F "BlockFinderModel" 113 ki_RM 9 := ⟨by decide, nR_RM, nT_RM, 29, rfl, by decide, ni_RM, mv_in 369 (by decide +kernel) (by decide +kernel)⟩
theorem g_RM_113 : mv_Pf "BlockFinderModel" 113 ki_RM 9 false (.int) := ⟨by decide, nR_RM, nT_RM, 29, ny_RM, rfl, by decide, ni_RM, mv_in 369 (by decide +kernel) (by decide +kernel), nt_RM, nn_RM, rfl, by decide +kernel, fun h => by cases h⟩
theorem f_RM_19 : mv_F "BlockFinderModel" 19 ki_RM 10 := ⟨by decide, nR_RM, nT_RM, 29, rfl, by decide, ni_RM, mv_in 370 (by decide +kernel) (by decide +kernel)⟩
theorem g_RM_19 : mv_Pf "BlockFinderModel" 19 ki_RM 10 true (.array .int) := ⟨by decide, nR_RM, nT_RM, 29, ny_RM, rfl, by decide, ni_RM, mv_in 370 (by decide +kernel) (by decide +kernel), nt_RM, nn_RM, rfl, by decide +kernel, fun _ => rfl⟩
theorem f_RM_22 : mv_F "BlockFinderModel" 22 ki_RM 11 := ⟨by decide, nR_RM, nT_RM, 29, rfl, by decide, ni_RM, mv_in 371 (by decide +kernel) (by decide +kernel)⟩
theorem g_RM_22 : mv_Pf "BlockFinderModel" 22 ki_RM 11 true (.array .int) := ⟨by decide, nR_RM, nT_RM, 29, ny_RM, rfl, by decide, ni_RM, mv_in 371 (by decide +kernel) (by decide +kernel), nt_RM, nn_RM, rfl, by decide +kernel, fun _ => rfl⟩
theorem f_RM_25 : mv_F "BlockFinderModel" 25 ki_RM 12 := ⟨by decide, nR_RM, nT_RM, 29, rfl, by decide, ni_RM, mv_in 372 (by decide +kernel) (by decide +kernel)⟩
theorem g_RM_25 : mv_Pf "BlockFinderModel" 25 ki_RM 12 true (.array .int) := ⟨by decide, nR_RM, nT_RM, 29, ny_RM, rfl, by decide, ni_RM, mv_in 372 (by decide +kernel) (by decide +kernel), nt_RM, nn_RM, rfl, by decide +kernel, fun _ => rfl⟩
theorem f_RM_171 : mv_F "BlockFinderModel" 171 ki_RM 13 := ⟨by decide, nR_RM, nT_RM, 29, rfl, by decide, ni_RM, mv_in 373 (by decide +kernel) (by decide +kernel)⟩
theorem g_RM_171 : mv_Pf "BlockFinderModel" 171 ki_RM 13 false (.boolean) := ⟨by decide, nR_RM, nT_RM, 29, ny_RM, rfl, by decide, ni_RM, mv_in 373 (by decide +kernel) (by decide +kernel), nt_RM, nn_RM, rfl, by decide +kernel, fun h => by cases h⟩
theorem f_RM_152 : mv_F "BlockFinderModel" 152 ki_RM 14 := ⟨by decide, nR_RM, nT_RM, 29, rfl, by decide, ni_RM, mv_in 374 (by decide +kernel) (by decide +kernel)⟩
theorem g_RM_152 : mv_Pf "BlockFinderModel" 152 ki_RM 14 false (.boolean) := ⟨by decide, nR_RM, nT_RM, 29, ny_RM, rfl, by decide, ni_RM, mv_in 374 (by decide +kernel) (by decide +kernel), nt_RM, nn_RM, rfl, by decide +kernel, fun h => by cases h⟩
theorem f_RM_129 : mv_F "BlockFinderModel" 129 ki_RM 15 := ⟨by decide, nR_RM, nT_RM, 29, rfl, by decide, ni_RM, mv_in 375 (by decide +kernel) (by decide +kernel)⟩
theorem g_RM_129 : mv_Pf "BlockFinderModel" 129 ki_RM 15 false (.int) := ⟨by decide, nR_RM, nT_RM, 29, ny_RM, rfl, by decide, ni_RM, mv_in 375 (by decide +kernel) (by decide +kernel), nt_RM, nn_RM, rfl, by decide +kernel, fun h => by cases h⟩
theorem f_RM_28 : mv_F "BlockFinderModel" 28 ki_RM 16 := ⟨by decide, nR_RM, nT_RM, 29, rfl, by decide, ni_RM, mv_in 376 (by decide +kernel) (by decide +kernel)⟩
theorem g_RM_28 : mv_Pf "BlockFinderModel" 28 ki_RM 16 true (.array .int) := ⟨by decide, nR_RM, nT_RM, 29, ny_RM, rfl, by decide, ni_RM, mv_in 376 (by decide +kernel) (by decide +kernel), nt_RM, nn_RM, rfl, by decide +kernel, fun _ => rfl⟩
theorem f_RM_31 : mv_F "BlockFinderModel" 31 ki_RM 17 := ⟨by decide, nR_RM, nT_RM, 29, rfl, by decide, ni_RM, mv_in 377 (by decide +kernel) (by decide +kernel)⟩
theorem g_RM_31 : mv_Pf "BlockFinderModel" 31 ki_RM 17 true (.array .int) := ⟨by decide, nR_RM, nT_RM, 29, ny_RM, rfl, by decide, ni_RM, mv_in 377 (by decide +kernel) (by decide +kernel), nt_RM, nn_RM, rfl, by decide +kernel, fun _ => rfl⟩
theorem f_RM_34 : mv_F "BlockFinderModel" 34 ki_RM 18 := ⟨by decide, nR_RM, nT_RM, 29, rfl, by decide, ni_RM, mv_in 378 (by decide +kernel) (by decide +kernel)⟩
theorem g_RM_34 : mv_Pf "BlockFinderModel" 34 ki_RM 18 true (.array .int) := ⟨by decide, nR_RM, nT_RM, 29, ny_RM, rfl, by decide, ni_RM, mv_in 378 (by decide +kernel) (by decide +kernel), nt_RM, nn_RM, rfl, by decide +kernel, fun _ => rfl⟩
theorem f_RM_37 : mv_F "BlockFinderModel" 37 ki_RM 19 := ⟨by decide, nR_RM, nT_RM, 29, rfl, by decide, ni_RM, mv_in 379 (by decide +kernel) (by decide +kernel)⟩
theorem g_RM_37 : mv_Pf "BlockFinderModel" 37 ki_RM 19 true (.array .boolean) := ⟨by decide, nR_RM, nT_RM, 29, ny_RM, rfl, by decide, ni_RM, mv_in 379 (by decide +kernel) (by decide +kernel), nt_RM, nn_RM, rfl, by decide +kernel, fun _ => rfl⟩
theorem f_RM_41 : mv_F "BlockFinderModel" 41 ki_RM 20 := ⟨by decide, nR_RM, nT_RM, 29, rfl, by decide, ni_RM, mv_in 380 (by decide +kernel) (by decide +kernel)⟩
theorem g_RM_41 : mv_Pf "BlockFinderModel" 41 ki_RM 20 true (.array .int) := ⟨by decide, nR_RM, nT_RM, 29, ny_RM, rfl, by decide, ni_RM, mv_in 380 (by decide +kernel) (by decide +kernel), nt_RM, nn_RM, rfl, by decide +kernel, fun _ => rfl⟩
theorem f_RM_126 : mv_F "BlockFinderModel" 126 ki_RM 21 := ⟨by decide, nR_RM, nT_RM, 29, rfl, by decide, ni_RM, mv_in 381 (by decide +kernel) (by decide +kernel)⟩
theorem g_RM_126 : mv_Pf "BlockFinderModel" 126 ki_RM 21 false (.int) := ⟨by decide, nR_RM, nT_RM, 29, ny_RM, rfl, by decide, ni_RM, mv_in 381 (by decide +kernel) (by decide +kernel), nt_RM, nn_RM, rfl, by decide +kernel, fun h => by cases h⟩
theorem f_RM_44 : mv_F "BlockFinderModel" 44 ki_RM 22 := ⟨by decide, nR_RM, nT_RM, 29, rfl, by decide, ni_RM, mv_in 382 (by decide +kernel) (by decide +kernel)⟩
theorem g_RM_44 : mv_Pf "BlockFinderModel" 44 ki_RM 22 true (.array .int) := ⟨by decide, nR_RM, nT_RM, 29, ny_RM, rfl, by decide, ni_RM, mv_in 382 (by decide +kernel) (by decide +kernel), nt_RM, nn_RM, rfl, by decide +kernel, fun _ => rfl⟩
theorem f_RM_47 : mv_F "BlockFinderModel" 47 ki_RM 23 := ⟨by decide, nR_RM, nT_RM, 29, rfl, by decide, ni_RM, mv_in 383 (by decide +kernel) (by decide +kernel)⟩
theorem g_RM_47 : mv_Pf "BlockFinderModel" 47 ki_RM 23 true (.array .int) := ⟨by decide, nR_RM, nT_RM, 29, ny_RM, rfl, by decide, ni_RM, mv_in 383 (by decide +kernel) (by decide +kernel), nt_RM, nn_RM, rfl, by decide +kernel, fun _ => rfl⟩
theorem f_RM_50 : mv_F "BlockFinderModel" 50 ki_RM 24 := ⟨by decide, nR_RM, nT_RM, 29, rfl, by decide, ni_RM, mv_in 384 (by decide +kernel) (by decide +kernel)⟩
theorem g_RM_50 : mv_Pf "BlockFinderModel" 50 ki_RM 24 true (.array .int) := ⟨by decide, nR_RM, nT_RM, 29, ny_RM, rfl, by decide, ni_RM, mv_in 384 (by decide +kernel) (by decide +kernel), nt_RM, nn_RM, rfl, by decide +kernel, fun _ => rfl⟩
theorem f_RM_53 : mv_F "BlockFinderModel" 53 ki_RM 25 := ⟨by decide, nR_RM, nT_RM, 29, rfl, by decide, ni_RM, mv_in 385 (by decide +kernel) (by decide +kernel)⟩
theorem g_RM_53 : mv_Pf "BlockFinderModel" 53 ki_RM 25 true (.array .int) := ⟨by decide, nR_RM, nT_RM, 29, ny_RM, rfl, by decide, ni_RM, mv_in 385 (by decide +kernel) (by decide +kernel), nt_RM, nn_RM, rfl, by decide +kernel, fun _ => rfl⟩
theorem f_RM_136 : mv_F "BlockFinderModel" 136 ki_RM 26 := ⟨by decide, nR_RM, nT_RM, 29, rfl, by decide, ni_RM, mv_in 386 (by decide +kernel) (by decide +kernel)⟩
theorem g_RM_136 : mv_Pf "BlockFinderModel" 136 ki_RM 26 false (.int) := ⟨by decide, nR_RM, nT_RM, 29, ny_RM, rfl, by decide, ni_RM, mv_in 386 (by decide +kernel) (by decide +kernel), nt_RM, nn_RM, rfl, by decide +kernel, fun h => by cases h⟩
theorem f_RM_56 : mv_F "BlockFinderModel" 56 ki_RM 27 := ⟨by decide, nR_RM, nT_RM, 29, rfl, by decide, ni_RM, mv_in 387 (by decide +kernel) (by decide +kernel)⟩
theorem g_RM_56 : mv_Pf "BlockFinderModel" 56 ki_RM 27 true (.array .int) := ⟨by decide, nR_RM, nT_RM, 29, ny_RM, rfl, by decide, ni_RM, mv_in 387 (by decide +kernel) (by decide +kernel), nt_RM, nn_RM, rfl, by decide +kernel, fun _ => rfl⟩
theorem f_RM_142 : mv_F "BlockFinderModel" 142 ki_RM 28 := ⟨by decide, nR_RM, nT_RM, 29, rfl, by decide, ni_RM, mv_in 388 (by decide +kernel) (by decide +kernel)⟩
theorem g_RM_142 : mv_Pf "BlockFinderModel" 142 ki_RM 28 false (.int) := ⟨by decide, nR_RM, nT_RM, 29, ny_RM, rfl, by decide, ni_RM, mv_in 388 (by decide +kernel) (by decide +kernel), nt_RM, nn_RM, rfl, by decide +kernel, fun h => by cases h⟩
theorem c_BF_1 : Cond.methodLink "BlockFinder" 1 Lib.objectInit ∈ mv_tb ∧ Cond.instanceMethod Lib.objectInit ∈ mv_tb ∧ Cond.code Lib.objectInit ⟨#[0xb1]⟩ 1 none ∈ mv_tb := ⟨mv_in 12 (by decide +kernel) (by decide +kernel), mv_in 13 (by decide +kernel) (by decide +kernel), mv_in 14 (by decide +kernel) (by decide +kernel)⟩
theorem c_BF_11 : mv_cI "BlockFinder" 11 md_R_init := ⟨mm_R_init, mv_in 17 (by decide +kernel) (by decide +kernel), mv_in 18 (by decide +kernel) (by decide +kernel), rfl, rfl⟩
theorem c_BF_23 : mv_cN "BlockFinder" 23 md_S_init := ⟨mm_S_init, ⟨"BlockFinder", by decide +kernel⟩, mv_in 54 (by decide +kernel) (by decide +kernel), rfl, rfl⟩
theorem c_BF_36 : mv_cN "BlockFinder" 36 md_G_init := ⟨mm_G_init, ⟨"BlockFinder", by decide +kernel⟩, mv_in 72 (by decide +kernel) (by decide +kernel), rfl, rfl⟩
theorem c_BF_61 : mv_kS "BlockFinder" 61 1 md_BF_nearestSide := ⟨⟨mm_BF_nearestSide, mv_in 106 (by decide +kernel) (by decide +kernel), mv_in 107 (by decide +kernel) (by decide +kernel)⟩, rfl, rfl, by decide +kernel⟩
theorem c_BF_72 : mv_kV "BlockFinder" 72 ki_BF 5 md_BF_addTo := ⟨⟨mm_BF_addTo, mv_in 160 (by decide +kernel) (by decide +kernel), mv_in 162 (by decide +kernel) (by decide +kernel), mv_inS 0 (by decide +kernel) (by decide +kernel)⟩, rfl, rfl, by decide, ⟨_, _, rfl⟩, by decide +kernel⟩
theorem c_BF_76 : mv_kV "BlockFinder" 76 ki_BF 2 md_BF_joinBoxes := ⟨⟨mm_BF_joinBoxes, mv_in 180 (by decide +kernel) (by decide +kernel), mv_in 182 (by decide +kernel) (by decide +kernel), mv_inS 2 (by decide +kernel) (by decide +kernel)⟩, rfl, rfl, by decide, ⟨_, _, rfl⟩, by decide +kernel⟩
theorem c_BF_83 : mv_kV "BlockFinder" 83 ki_G 2 md_G_gather := ⟨⟨mm_G_gather, mv_in 223 (by decide +kernel) (by decide +kernel), mv_in 224 (by decide +kernel) (by decide +kernel), mv_in 225 (by decide +kernel) (by decide +kernel)⟩, rfl, rfl, by decide, ⟨_, _, rfl⟩, by decide +kernel⟩
theorem c_BF_87 : mv_kV "BlockFinder" 87 ki_BF 0 md_BF_joinLines := ⟨⟨mm_BF_joinLines, mv_in 240 (by decide +kernel) (by decide +kernel), mv_in 242 (by decide +kernel) (by decide +kernel), mv_inS 3 (by decide +kernel) (by decide +kernel)⟩, rfl, rfl, by decide, ⟨_, _, rfl⟩, by decide +kernel⟩
theorem c_BF_93 : mv_kV "BlockFinder" 93 ki_BF 0 md_BF_measureBoxesOfBlocks := ⟨⟨mm_BF_measureBoxesOfBlocks, mv_in 255 (by decide +kernel) (by decide +kernel), mv_in 257 (by decide +kernel) (by decide +kernel), mv_inS 4 (by decide +kernel) (by decide +kernel)⟩, rfl, rfl, by decide, ⟨_, _, rfl⟩, by decide +kernel⟩
theorem c_BF_96 : mv_kV "BlockFinder" 96 ki_G 0 md_G_size := ⟨⟨mm_G_size, mv_in 244 (by decide +kernel) (by decide +kernel), mv_in 245 (by decide +kernel) (by decide +kernel), mv_in 246 (by decide +kernel) (by decide +kernel)⟩, rfl, rfl, by decide, ⟨_, _, rfl⟩, by decide +kernel⟩
theorem c_BF_103 : mv_kV "BlockFinder" 103 ki_BF 1 md_BF_judge := ⟨⟨mm_BF_judge, mv_in 264 (by decide +kernel) (by decide +kernel), mv_in 266 (by decide +kernel) (by decide +kernel), mv_inS 6 (by decide +kernel) (by decide +kernel)⟩, rfl, rfl, by decide, ⟨_, _, rfl⟩, by decide +kernel⟩
theorem c_BF_106 : mv_kV "BlockFinder" 106 ki_G 1 md_G_putInOrder := ⟨⟨mm_G_putInOrder, mv_in 288 (by decide +kernel) (by decide +kernel), mv_in 289 (by decide +kernel) (by decide +kernel), mv_in 290 (by decide +kernel) (by decide +kernel)⟩, rfl, rfl, by decide, ⟨_, _, rfl⟩, by decide +kernel⟩
theorem c_BF_114 : mv_kV "BlockFinder" 114 ki_BF 1 md_BF_groupOfBox := ⟨⟨mm_BF_groupOfBox, mv_in 259 (by decide +kernel) (by decide +kernel), mv_in 261 (by decide +kernel) (by decide +kernel), mv_inS 5 (by decide +kernel) (by decide +kernel)⟩, rfl, rfl, by decide, ⟨_, _, rfl⟩, by decide +kernel⟩
theorem c_BF_117 : mv_kV "BlockFinder" 117 ki_G 1 md_G_has := ⟨⟨mm_G_has, mv_in 303 (by decide +kernel) (by decide +kernel), mv_in 304 (by decide +kernel) (by decide +kernel), mv_in 305 (by decide +kernel) (by decide +kernel)⟩, rfl, rfl, by decide, ⟨_, _, rfl⟩, by decide +kernel⟩
theorem c_BF_121 : mv_kS "BlockFinder" 121 1 md_BF_isDetail := ⟨⟨mm_BF_isDetail, mv_in 311 (by decide +kernel) (by decide +kernel), mv_in 312 (by decide +kernel) (by decide +kernel)⟩, rfl, rfl, by decide +kernel⟩
theorem c_BF_130 : mv_kV "BlockFinder" 130 ki_R 2 md_R_side := ⟨⟨mm_R_side, mv_in 314 (by decide +kernel) (by decide +kernel), mv_in 315 (by decide +kernel) (by decide +kernel), mv_in 316 (by decide +kernel) (by decide +kernel)⟩, rfl, rfl, by decide, ⟨_, _, rfl⟩, by decide +kernel⟩
theorem c_BF_134 : mv_kV "BlockFinder" 134 ki_BF 2 md_BF_lineInBlock := ⟨⟨mm_BF_lineInBlock, mv_in 322 (by decide +kernel) (by decide +kernel), mv_in 324 (by decide +kernel) (by decide +kernel), mv_inS 10 (by decide +kernel) (by decide +kernel)⟩, rfl, rfl, by decide, ⟨_, _, rfl⟩, by decide +kernel⟩
theorem c_BF_140 : mv_kV "BlockFinder" 140 ki_R 1 md_R_has := ⟨⟨mm_R_has, mv_in 342 (by decide +kernel) (by decide +kernel), mv_in 308 (by decide +kernel) (by decide +kernel), mv_in 309 (by decide +kernel) (by decide +kernel)⟩, rfl, rfl, by decide, ⟨_, _, rfl⟩, by decide +kernel⟩
theorem c_BF_141 : Cond.methodLink "BlockFinder" 141 Lib.Math.min.name ∈ mv_tb ∧ Cond.static Lib.Math.min.name ∈ mv_tb ∧ Cond.initialized "java/lang/Math" ∈ mv_tb ∧ Cond.code Lib.Math.min.name Lib.Math.min.code 2 (some .int) ∈ mv_tb := ⟨mv_in 109 (by decide +kernel) (by decide +kernel), mv_in 110 (by decide +kernel) (by decide +kernel), mv_in 3 (by decide +kernel) (by decide +kernel), mv_in 111 (by decide +kernel) (by decide +kernel)⟩
theorem c_BF_146 : Cond.methodLink "BlockFinder" 146 Lib.Math.max.name ∈ mv_tb ∧ Cond.static Lib.Math.max.name ∈ mv_tb ∧ Cond.initialized "java/lang/Math" ∈ mv_tb ∧ Cond.code Lib.Math.max.name Lib.Math.max.code 2 (some .int) ∈ mv_tb := ⟨mv_in 112 (by decide +kernel) (by decide +kernel), mv_in 22 (by decide +kernel) (by decide +kernel), mv_in 3 (by decide +kernel) (by decide +kernel), mv_in 23 (by decide +kernel) (by decide +kernel)⟩
theorem c_BF_149 : mv_kV "BlockFinder" 149 ki_BF 4 md_BF_liesOnSheet := ⟨⟨mm_BF_liesOnSheet, mv_in 164 (by decide +kernel) (by decide +kernel), mv_in 166 (by decide +kernel) (by decide +kernel), mv_inS 1 (by decide +kernel) (by decide +kernel)⟩, rfl, rfl, by decide, ⟨_, _, rfl⟩, by decide +kernel⟩
theorem c_BF_153 : mv_kV "BlockFinder" 153 ki_R 4 md_R_add := ⟨⟨mm_R_add, mv_in 168 (by decide +kernel) (by decide +kernel), mv_in 169 (by decide +kernel) (by decide +kernel), mv_in 170 (by decide +kernel) (by decide +kernel)⟩, rfl, rfl, by decide, ⟨_, _, rfl⟩, by decide +kernel⟩
theorem c_BF_157 : mv_kV "BlockFinder" 157 ki_S 1 md_S_scatter := ⟨⟨mm_S_scatter, mv_in 184 (by decide +kernel) (by decide +kernel), mv_in 185 (by decide +kernel) (by decide +kernel), mv_in 186 (by decide +kernel) (by decide +kernel)⟩, rfl, rfl, by decide, ⟨_, _, rfl⟩, by decide +kernel⟩
theorem c_BF_160 : mv_kV "BlockFinder" 160 ki_R 3 md_R_areNearAsBoxes := ⟨⟨mm_R_areNearAsBoxes, mv_in 190 (by decide +kernel) (by decide +kernel), mv_in 191 (by decide +kernel) (by decide +kernel), mv_in 192 (by decide +kernel) (by decide +kernel)⟩, rfl, rfl, by decide, ⟨_, _, rfl⟩, by decide +kernel⟩
theorem c_BF_164 : mv_kV "BlockFinder" 164 ki_S 2 md_S_join := ⟨⟨mm_S_join, mv_in 219 (by decide +kernel) (by decide +kernel), mv_in 220 (by decide +kernel) (by decide +kernel), mv_in 221 (by decide +kernel) (by decide +kernel)⟩, rfl, rfl, by decide, ⟨_, _, rfl⟩, by decide +kernel⟩
theorem c_BF_168 : mv_kV "BlockFinder" 168 ki_R 3 md_R_areNearAsLines := ⟨⟨mm_R_areNearAsLines, mv_in 248 (by decide +kernel) (by decide +kernel), mv_in 249 (by decide +kernel) (by decide +kernel), mv_in 250 (by decide +kernel) (by decide +kernel)⟩, rfl, rfl, by decide, ⟨_, _, rfl⟩, by decide +kernel⟩
theorem c_BF_174 : mv_kV "BlockFinder" 174 ki_R 2 md_R_height := ⟨⟨mm_R_height, mv_in 263 (by decide +kernel) (by decide +kernel), mv_in 195 (by decide +kernel) (by decide +kernel), mv_in 196 (by decide +kernel) (by decide +kernel)⟩, rfl, rfl, by decide, ⟨_, _, rfl⟩, by decide +kernel⟩
theorem c_BF_178 : mv_kV "BlockFinder" 178 ki_BF 1 md_BF_liesInPane := ⟨⟨mm_BF_liesInPane, mv_in 268 (by decide +kernel) (by decide +kernel), mv_in 270 (by decide +kernel) (by decide +kernel), mv_inS 7 (by decide +kernel) (by decide +kernel)⟩, rfl, rfl, by decide, ⟨_, _, rfl⟩, by decide +kernel⟩
theorem c_BF_181 : mv_kV "BlockFinder" 181 ki_BF 1 md_BF_isStamp := ⟨⟨mm_BF_isStamp, mv_in 276 (by decide +kernel) (by decide +kernel), mv_in 278 (by decide +kernel) (by decide +kernel), mv_inS 8 (by decide +kernel) (by decide +kernel)⟩, rfl, rfl, by decide, ⟨_, _, rfl⟩, by decide +kernel⟩
theorem c_BF_184 : mv_kV "BlockFinder" 184 ki_BF 1 md_BF_isSender := ⟨⟨mm_BF_isSender, mv_in 280 (by decide +kernel) (by decide +kernel), mv_in 282 (by decide +kernel) (by decide +kernel), mv_inS 9 (by decide +kernel) (by decide +kernel)⟩, rfl, rfl, by decide, ⟨_, _, rfl⟩, by decide +kernel⟩
theorem c_BF_199 : mv_kV "BlockFinder" 199 ki_R 1 md_R_area := ⟨⟨mm_R_area, mv_in 284 (by decide +kernel) (by decide +kernel), mv_in 285 (by decide +kernel) (by decide +kernel), mv_in 286 (by decide +kernel) (by decide +kernel)⟩, rfl, rfl, by decide, ⟨_, _, rfl⟩, by decide +kernel⟩
theorem c_BF_202 : mv_kV "BlockFinder" 202 ki_R 3 md_R_encloses := ⟨⟨mm_R_encloses, mv_in 272 (by decide +kernel) (by decide +kernel), mv_in 273 (by decide +kernel) (by decide +kernel), mv_in 274 (by decide +kernel) (by decide +kernel)⟩, rfl, rfl, by decide, ⟨_, _, rfl⟩, by decide +kernel⟩
theorem c_RM_1 : Cond.methodLink "BlockFinderModel" 1 Lib.objectInit ∈ mv_tb ∧ Cond.instanceMethod Lib.objectInit ∈ mv_tb ∧ Cond.code Lib.objectInit ⟨#[0xb1]⟩ 1 none ∈ mv_tb := ⟨mv_in 359 (by decide +kernel) (by decide +kernel), mv_in 13 (by decide +kernel) (by decide +kernel), mv_in 14 (by decide +kernel) (by decide +kernel)⟩
theorem c_RM_69 : mv_kV "BlockFinderModel" 69 ki_RM 4 md_RM_isOnSheet := ⟨⟨mm_RM_isOnSheet, mv_in 453 (by decide +kernel) (by decide +kernel), mv_in 455 (by decide +kernel) (by decide +kernel), mv_inS 11 (by decide +kernel) (by decide +kernel)⟩, rfl, rfl, by decide, ⟨_, _, rfl⟩, by decide +kernel⟩
theorem c_RM_83 : mv_kV "BlockFinderModel" 83 ki_RM 2 md_RM_side := ⟨⟨mm_RM_side, mv_in 477 (by decide +kernel) (by decide +kernel), mv_in 479 (by decide +kernel) (by decide +kernel), mv_inS 15 (by decide +kernel) (by decide +kernel)⟩, rfl, rfl, by decide, ⟨_, _, rfl⟩, by decide +kernel⟩
theorem c_RM_87 : mv_kV "BlockFinderModel" 87 ki_RM 1 md_RM_lower := ⟨⟨mm_RM_lower, mv_in 473 (by decide +kernel) (by decide +kernel), mv_in 475 (by decide +kernel) (by decide +kernel), mv_inS 14 (by decide +kernel) (by decide +kernel)⟩, rfl, rfl, by decide, ⟨_, _, rfl⟩, by decide +kernel⟩
theorem c_RM_91 : mv_kS "BlockFinderModel" 91 2 md_RM_least := ⟨⟨mm_RM_least, mv_in 481 (by decide +kernel) (by decide +kernel), mv_in 482 (by decide +kernel) (by decide +kernel)⟩, rfl, rfl, by decide +kernel⟩
theorem c_RM_94 : mv_kV "BlockFinderModel" 94 ki_RM 1 md_RM_upper := ⟨⟨mm_RM_upper, mv_in 484 (by decide +kernel) (by decide +kernel), mv_in 486 (by decide +kernel) (by decide +kernel), mv_inS 16 (by decide +kernel) (by decide +kernel)⟩, rfl, rfl, by decide, ⟨_, _, rfl⟩, by decide +kernel⟩
theorem c_RM_97 : mv_kS "BlockFinderModel" 97 2 md_RM_most := ⟨⟨mm_RM_most, mv_in 488 (by decide +kernel) (by decide +kernel), mv_in 489 (by decide +kernel) (by decide +kernel)⟩, rfl, rfl, by decide +kernel⟩
theorem c_RM_100 : mv_kV "BlockFinderModel" 100 ki_RM 1 md_RM_left := ⟨⟨mm_RM_left, mv_in 491 (by decide +kernel) (by decide +kernel), mv_in 493 (by decide +kernel) (by decide +kernel), mv_inS 17 (by decide +kernel) (by decide +kernel)⟩, rfl, rfl, by decide, ⟨_, _, rfl⟩, by decide +kernel⟩
theorem c_RM_103 : mv_kV "BlockFinderModel" 103 ki_RM 1 md_RM_right := ⟨⟨mm_RM_right, mv_in 495 (by decide +kernel) (by decide +kernel), mv_in 497 (by decide +kernel) (by decide +kernel), mv_inS 18 (by decide +kernel) (by decide +kernel)⟩, rfl, rfl, by decide, ⟨_, _, rfl⟩, by decide +kernel⟩
theorem c_RM_106 : mv_kV "BlockFinderModel" 106 ki_RM 1 md_RM_high := ⟨⟨mm_RM_high, mv_in 499 (by decide +kernel) (by decide +kernel), mv_in 501 (by decide +kernel) (by decide +kernel), mv_inS 19 (by decide +kernel) (by decide +kernel)⟩, rfl, rfl, by decide, ⟨_, _, rfl⟩, by decide +kernel⟩
theorem c_RM_109 : mv_kV "BlockFinderModel" 109 ki_RM 2 md_RM_areBoxesNear := ⟨⟨mm_RM_areBoxesNear, mv_in 469 (by decide +kernel) (by decide +kernel), mv_in 471 (by decide +kernel) (by decide +kernel), mv_inS 13 (by decide +kernel) (by decide +kernel)⟩, rfl, rfl, by decide, ⟨_, _, rfl⟩, by decide +kernel⟩
theorem c_RM_116 : mv_kS "BlockFinderModel" 116 7 md_RM_join := ⟨⟨mm_RM_join, mv_in 507 (by decide +kernel) (by decide +kernel), mv_in 508 (by decide +kernel) (by decide +kernel)⟩, rfl, rfl, by decide +kernel⟩
theorem c_RM_120 : mv_kV "BlockFinderModel" 120 ki_RM 4 md_RM_isBefore := ⟨⟨mm_RM_isBefore, mv_in 514 (by decide +kernel) (by decide +kernel), mv_in 516 (by decide +kernel) (by decide +kernel), mv_inS 22 (by decide +kernel) (by decide +kernel)⟩, rfl, rfl, by decide, ⟨_, _, rfl⟩, by decide +kernel⟩
theorem c_RM_123 : mv_kV "BlockFinderModel" 123 ki_RM 2 md_RM_areLinesNear := ⟨⟨mm_RM_areLinesNear, mv_in 522 (by decide +kernel) (by decide +kernel), mv_in 524 (by decide +kernel) (by decide +kernel), mv_inS 24 (by decide +kernel) (by decide +kernel)⟩, rfl, rfl, by decide, ⟨_, _, rfl⟩, by decide +kernel⟩
theorem c_RM_132 : mv_kV "BlockFinderModel" 132 ki_RM 1 md_RM_keepBlock := ⟨⟨mm_RM_keepBlock, mv_in 530 (by decide +kernel) (by decide +kernel), mv_in 532 (by decide +kernel) (by decide +kernel), mv_inS 26 (by decide +kernel) (by decide +kernel)⟩, rfl, rfl, by decide, ⟨_, _, rfl⟩, by decide +kernel⟩
theorem c_RM_139 : mv_kV "BlockFinderModel" 139 ki_RM 1 md_RM_lineAt := ⟨⟨mm_RM_lineAt, mv_in 542 (by decide +kernel) (by decide +kernel), mv_in 544 (by decide +kernel) (by decide +kernel), mv_inS 29 (by decide +kernel) (by decide +kernel)⟩, rfl, rfl, by decide, ⟨_, _, rfl⟩, by decide +kernel⟩
theorem c_RM_145 : mv_kV "BlockFinderModel" 145 ki_RM 1 md_RM_pointsOf := ⟨⟨mm_RM_pointsOf, mv_in 534 (by decide +kernel) (by decide +kernel), mv_in 536 (by decide +kernel) (by decide +kernel), mv_inS 27 (by decide +kernel) (by decide +kernel)⟩, rfl, rfl, by decide, ⟨_, _, rfl⟩, by decide +kernel⟩
theorem c_RM_148 : mv_kV "BlockFinderModel" 148 ki_RM 1 md_RM_isInPane := ⟨⟨mm_RM_isInPane, mv_in 538 (by decide +kernel) (by decide +kernel), mv_in 540 (by decide +kernel) (by decide +kernel), mv_inS 28 (by decide +kernel) (by decide +kernel)⟩, rfl, rfl, by decide, ⟨_, _, rfl⟩, by decide +kernel⟩
theorem c_RM_155 : mv_kV "BlockFinderModel" 155 ki_RM 2 md_RM_isFirst := ⟨⟨mm_RM_isFirst, mv_in 550 (by decide +kernel) (by decide +kernel), mv_in 552 (by decide +kernel) (by decide +kernel), mv_inS 31 (by decide +kernel) (by decide +kernel)⟩, rfl, rfl, by decide, ⟨_, _, rfl⟩, by decide +kernel⟩
theorem c_RM_158 : mv_kV "BlockFinderModel" 158 ki_RM 1 md_RM_findLines := ⟨⟨mm_RM_findLines, mv_in 465 (by decide +kernel) (by decide +kernel), mv_in 467 (by decide +kernel) (by decide +kernel), mv_inS 12 (by decide +kernel) (by decide +kernel)⟩, rfl, rfl, by decide, ⟨_, _, rfl⟩, by decide +kernel⟩
theorem c_RM_162 : mv_kV "BlockFinderModel" 162 ki_RM 0 md_RM_rectangles := ⟨⟨mm_RM_rectangles, mv_in 503 (by decide +kernel) (by decide +kernel), mv_in 505 (by decide +kernel) (by decide +kernel), mv_inS 20 (by decide +kernel) (by decide +kernel)⟩, rfl, rfl, by decide, ⟨_, _, rfl⟩, by decide +kernel⟩
theorem c_RM_165 : mv_kV "BlockFinderModel" 165 ki_RM 0 md_RM_sortLines := ⟨⟨mm_RM_sortLines, mv_in 510 (by decide +kernel) (by decide +kernel), mv_in 512 (by decide +kernel) (by decide +kernel), mv_inS 21 (by decide +kernel) (by decide +kernel)⟩, rfl, rfl, by decide, ⟨_, _, rfl⟩, by decide +kernel⟩
theorem c_RM_168 : mv_kV "BlockFinderModel" 168 ki_RM 0 md_RM_findBlocks := ⟨⟨mm_RM_findBlocks, mv_in 518 (by decide +kernel) (by decide +kernel), mv_in 520 (by decide +kernel) (by decide +kernel), mv_inS 23 (by decide +kernel) (by decide +kernel)⟩, rfl, rfl, by decide, ⟨_, _, rfl⟩, by decide +kernel⟩
theorem c_RM_174 : mv_kV "BlockFinderModel" 174 ki_RM 0 md_RM_keepLines := ⟨⟨mm_RM_keepLines, mv_in 526 (by decide +kernel) (by decide +kernel), mv_in 528 (by decide +kernel) (by decide +kernel), mv_inS 25 (by decide +kernel) (by decide +kernel)⟩, rfl, rfl, by decide, ⟨_, _, rfl⟩, by decide +kernel⟩
theorem c_RM_177 : mv_kV "BlockFinderModel" 177 ki_RM 0 md_RM_rank := ⟨⟨mm_RM_rank, mv_in 546 (by decide +kernel) (by decide +kernel), mv_in 548 (by decide +kernel) (by decide +kernel), mv_inS 30 (by decide +kernel) (by decide +kernel)⟩, rfl, rfl, by decide, ⟨_, _, rfl⟩, by decide +kernel⟩
theorem c_RM_180 : mv_kV "BlockFinderModel" 180 ki_RM 1 md_RM_isBlock := ⟨⟨mm_RM_isBlock, mv_in 558 (by decide +kernel) (by decide +kernel), mv_in 560 (by decide +kernel) (by decide +kernel), mv_inS 32 (by decide +kernel) (by decide +kernel)⟩, rfl, rfl, by decide, ⟨_, _, rfl⟩, by decide +kernel⟩
theorem c_RM_183 : mv_kV "BlockFinderModel" 183 ki_RM 1 md_RM_linesOf := ⟨⟨mm_RM_linesOf, mv_in 562 (by decide +kernel) (by decide +kernel), mv_in 564 (by decide +kernel) (by decide +kernel), mv_inS 33 (by decide +kernel) (by decide +kernel)⟩, rfl, rfl, by decide, ⟨_, _, rfl⟩, by decide +kernel⟩
theorem c_G_3 : Cond.methodLink "BlockFinder$Groups" 3 Lib.objectInit ∈ mv_tb ∧ Cond.instanceMethod Lib.objectInit ∈ mv_tb ∧ Cond.code Lib.objectInit ⟨#[0xb1]⟩ 1 none ∈ mv_tb := ⟨mv_in 74 (by decide +kernel) (by decide +kernel), mv_in 13 (by decide +kernel) (by decide +kernel), mv_in 14 (by decide +kernel) (by decide +kernel)⟩
theorem c_G_11 : mv_cI "BlockFinder$Groups" 11 md_R_init := ⟨mm_R_init, mv_in 76 (by decide +kernel) (by decide +kernel), mv_in 18 (by decide +kernel) (by decide +kernel), rfl, rfl⟩
theorem c_G_43 : mv_kV "BlockFinder$Groups" 43 ki_R 1 md_R_has := ⟨⟨mm_R_has, mv_in 307 (by decide +kernel) (by decide +kernel), mv_in 308 (by decide +kernel) (by decide +kernel), mv_in 309 (by decide +kernel) (by decide +kernel)⟩, rfl, rfl, by decide, ⟨_, _, rfl⟩, by decide +kernel⟩
theorem c_G_52 : mv_kV "BlockFinder$Groups" 52 ki_G 2 md_G_begin := ⟨⟨mm_G_begin, mv_in 227 (by decide +kernel) (by decide +kernel), mv_in 228 (by decide +kernel) (by decide +kernel), mv_in 229 (by decide +kernel) (by decide +kernel)⟩, rfl, rfl, by decide, ⟨_, _, rfl⟩, by decide +kernel⟩
theorem c_G_56 : mv_kV "BlockFinder$Groups" 56 ki_G 3 md_G_extend := ⟨⟨mm_G_extend, mv_in 232 (by decide +kernel) (by decide +kernel), mv_in 233 (by decide +kernel) (by decide +kernel), mv_in 234 (by decide +kernel) (by decide +kernel)⟩, rfl, rfl, by decide, ⟨_, _, rfl⟩, by decide +kernel⟩
theorem c_G_72 : mv_kV "BlockFinder$Groups" 72 ki_R 4 md_R_add := ⟨⟨mm_R_add, mv_in 231 (by decide +kernel) (by decide +kernel), mv_in 169 (by decide +kernel) (by decide +kernel), mv_in 170 (by decide +kernel) (by decide +kernel)⟩, rfl, rfl, by decide, ⟨_, _, rfl⟩, by decide +kernel⟩
theorem c_G_76 : mv_kV "BlockFinder$Groups" 76 ki_R 3 md_R_stretchOver := ⟨⟨mm_R_stretchOver, mv_in 236 (by decide +kernel) (by decide +kernel), mv_in 237 (by decide +kernel) (by decide +kernel), mv_in 238 (by decide +kernel) (by decide +kernel)⟩, rfl, rfl, by decide, ⟨_, _, rfl⟩, by decide +kernel⟩
theorem c_G_79 : mv_kV "BlockFinder$Groups" 79 ki_G 0 md_G_size := ⟨⟨mm_G_size, mv_in 292 (by decide +kernel) (by decide +kernel), mv_in 245 (by decide +kernel) (by decide +kernel), mv_in 246 (by decide +kernel) (by decide +kernel)⟩, rfl, rfl, by decide, ⟨_, _, rfl⟩, by decide +kernel⟩
theorem c_G_83 : mv_kV "BlockFinder$Groups" 83 ki_G 3 md_G_comesBefore := ⟨⟨mm_G_comesBefore, mv_in 293 (by decide +kernel) (by decide +kernel), mv_in 294 (by decide +kernel) (by decide +kernel), mv_in 295 (by decide +kernel) (by decide +kernel)⟩, rfl, rfl, by decide, ⟨_, _, rfl⟩, by decide +kernel⟩
theorem c_G_87 : mv_kV "BlockFinder$Groups" 87 ki_R 2 md_R_upperEnd := ⟨⟨mm_R_upperEnd, mv_in 297 (by decide +kernel) (by decide +kernel), mv_in 203 (by decide +kernel) (by decide +kernel), mv_in 204 (by decide +kernel) (by decide +kernel)⟩, rfl, rfl, by decide, ⟨_, _, rfl⟩, by decide +kernel⟩
theorem c_G_91 : mv_kV "BlockFinder$Groups" 91 ki_R 2 md_R_leftEnd := ⟨⟨mm_R_leftEnd, mv_in 298 (by decide +kernel) (by decide +kernel), mv_in 208 (by decide +kernel) (by decide +kernel), mv_in 209 (by decide +kernel) (by decide +kernel)⟩, rfl, rfl, by decide, ⟨_, _, rfl⟩, by decide +kernel⟩
theorem c_R_3 : Cond.methodLink "BlockFinder$Rectangles" 3 Lib.objectInit ∈ mv_tb ∧ Cond.instanceMethod Lib.objectInit ∈ mv_tb ∧ Cond.code Lib.objectInit ⟨#[0xb1]⟩ 1 none ∈ mv_tb := ⟨mv_in 20 (by decide +kernel) (by decide +kernel), mv_in 13 (by decide +kernel) (by decide +kernel), mv_in 14 (by decide +kernel) (by decide +kernel)⟩
theorem c_R_15 : Cond.methodLink "BlockFinder$Rectangles" 15 Lib.Math.max.name ∈ mv_tb ∧ Cond.static Lib.Math.max.name ∈ mv_tb ∧ Cond.initialized "java/lang/Math" ∈ mv_tb ∧ Cond.code Lib.Math.max.name Lib.Math.max.code 2 (some .int) ∈ mv_tb := ⟨mv_in 21 (by decide +kernel) (by decide +kernel), mv_in 22 (by decide +kernel) (by decide +kernel), mv_in 3 (by decide +kernel) (by decide +kernel), mv_in 23 (by decide +kernel) (by decide +kernel)⟩
theorem c_R_34 : Cond.methodLink "BlockFinder$Rectangles" 34 Lib.Math.min.name ∈ mv_tb ∧ Cond.static Lib.Math.min.name ∈ mv_tb ∧ Cond.initialized "java/lang/Math" ∈ mv_tb ∧ Cond.code Lib.Math.min.name Lib.Math.min.code 2 (some .int) ∈ mv_tb := ⟨mv_in 206 (by decide +kernel) (by decide +kernel), mv_in 110 (by decide +kernel) (by decide +kernel), mv_in 3 (by decide +kernel) (by decide +kernel), mv_in 111 (by decide +kernel) (by decide +kernel)⟩
theorem c_R_37 : mv_kV "BlockFinder$Rectangles" 37 ki_R 2 md_R_lowerEnd := ⟨⟨mm_R_lowerEnd, mv_in 198 (by decide +kernel) (by decide +kernel), mv_in 199 (by decide +kernel) (by decide +kernel), mv_in 200 (by decide +kernel) (by decide +kernel)⟩, rfl, rfl, by decide, ⟨_, _, rfl⟩, by decide +kernel⟩
theorem c_R_41 : mv_kV "BlockFinder$Rectangles" 41 ki_R 2 md_R_upperEnd := ⟨⟨mm_R_upperEnd, mv_in 202 (by decide +kernel) (by decide +kernel), mv_in 203 (by decide +kernel) (by decide +kernel), mv_in 204 (by decide +kernel) (by decide +kernel)⟩, rfl, rfl, by decide, ⟨_, _, rfl⟩, by decide +kernel⟩
theorem c_R_44 : mv_kV "BlockFinder$Rectangles" 44 ki_R 2 md_R_height := ⟨⟨mm_R_height, mv_in 194 (by decide +kernel) (by decide +kernel), mv_in 195 (by decide +kernel) (by decide +kernel), mv_in 196 (by decide +kernel) (by decide +kernel)⟩, rfl, rfl, by decide, ⟨_, _, rfl⟩, by decide +kernel⟩
theorem c_R_47 : mv_kV "BlockFinder$Rectangles" 47 ki_R 2 md_R_leftEnd := ⟨⟨mm_R_leftEnd, mv_in 207 (by decide +kernel) (by decide +kernel), mv_in 208 (by decide +kernel) (by decide +kernel), mv_in 209 (by decide +kernel) (by decide +kernel)⟩, rfl, rfl, by decide, ⟨_, _, rfl⟩, by decide +kernel⟩
theorem c_R_50 : mv_kV "BlockFinder$Rectangles" 50 ki_R 2 md_R_rightEnd := ⟨⟨mm_R_rightEnd, mv_in 211 (by decide +kernel) (by decide +kernel), mv_in 212 (by decide +kernel) (by decide +kernel), mv_in 213 (by decide +kernel) (by decide +kernel)⟩, rfl, rfl, by decide, ⟨_, _, rfl⟩, by decide +kernel⟩
theorem c_R_53 : mv_kV "BlockFinder$Rectangles" 53 ki_R 3 md_R_gapDownwards := ⟨⟨mm_R_gapDownwards, mv_in 215 (by decide +kernel) (by decide +kernel), mv_in 216 (by decide +kernel) (by decide +kernel), mv_in 217 (by decide +kernel) (by decide +kernel)⟩, rfl, rfl, by decide, ⟨_, _, rfl⟩, by decide +kernel⟩
theorem c_R_57 : Cond.methodLink "BlockFinder$Rectangles" 57 Lib.Math.abs.name ∈ mv_tb ∧ Cond.static Lib.Math.abs.name ∈ mv_tb ∧ Cond.initialized "java/lang/Math" ∈ mv_tb ∧ Cond.code Lib.Math.abs.name Lib.Math.abs.code 1 (some .int) ∈ mv_tb := ⟨mv_in 252 (by decide +kernel) (by decide +kernel), mv_in 253 (by decide +kernel) (by decide +kernel), mv_in 3 (by decide +kernel) (by decide +kernel), mv_in 254 (by decide +kernel) (by decide +kernel)⟩
theorem c_S_3 : Cond.methodLink "BlockFinder$Sets" 3 Lib.objectInit ∈ mv_tb ∧ Cond.instanceMethod Lib.objectInit ∈ mv_tb ∧ Cond.code Lib.objectInit ⟨#[0xb1]⟩ 1 none ∈ mv_tb := ⟨mv_in 56 (by decide +kernel) (by decide +kernel), mv_in 13 (by decide +kernel) (by decide +kernel), mv_in 14 (by decide +kernel) (by decide +kernel)⟩
theorem c_S_22 : Cond.methodLink "BlockFinder$Sets" 22 Lib.Math.min.name ∈ mv_tb ∧ Cond.static Lib.Math.min.name ∈ mv_tb ∧ Cond.initialized "java/lang/Math" ∈ mv_tb ∧ Cond.code Lib.Math.min.name Lib.Math.min.code 2 (some .int) ∈ mv_tb := ⟨mv_in 188 (by decide +kernel) (by decide +kernel), mv_in 110 (by decide +kernel) (by decide +kernel), mv_in 3 (by decide +kernel) (by decide +kernel), mv_in 111 (by decide +kernel) (by decide +kernel)⟩
theorem c_S_28 : Cond.methodLink "BlockFinder$Sets" 28 Lib.Math.max.name ∈ mv_tb ∧ Cond.static Lib.Math.max.name ∈ mv_tb ∧ Cond.initialized "java/lang/Math" ∈ mv_tb ∧ Cond.code Lib.Math.max.name Lib.Math.max.code 2 (some .int) ∈ mv_tb := ⟨mv_in 189 (by decide +kernel) (by decide +kernel), mv_in 22 (by decide +kernel) (by decide +kernel), mv_in 3 (by decide +kernel) (by decide +kernel), mv_in 23 (by decide +kernel) (by decide +kernel)⟩
theorem c_LW_9 : mv_kS "BlockFinderLaw" 9 2 md_LW_cell := ⟨⟨mm_LW_cell, mv_in 351 (by decide +kernel) (by decide +kernel), mv_in 352 (by decide +kernel) (by decide +kernel)⟩, rfl, rfl, by decide +kernel⟩
theorem c_LW_15 : mv_cI "BlockFinderLaw" 15 md_BF_init := ⟨mm_BF_init, mv_in 9 (by decide +kernel) (by decide +kernel), mv_in 10 (by decide +kernel) (by decide +kernel), rfl, rfl⟩
theorem c_LW_20 : mv_cI "BlockFinderLaw" 20 md_RM_init := ⟨mm_RM_init, mv_in 356 (by decide +kernel) (by decide +kernel), mv_in 357 (by decide +kernel) (by decide +kernel), rfl, rfl⟩
theorem c_LW_21 : mv_kV "BlockFinderLaw" 21 ki_BF 4 md_BF_box := ⟨⟨mm_BF_box, mv_in 156 (by decide +kernel) (by decide +kernel), mv_in 157 (by decide +kernel) (by decide +kernel), mv_in 158 (by decide +kernel) (by decide +kernel)⟩, rfl, rfl, by decide, ⟨_, _, rfl⟩, by decide +kernel⟩
theorem c_LW_25 : mv_kV "BlockFinderLaw" 25 ki_RM 4 md_RM_box := ⟨⟨mm_RM_box, mv_in 449 (by decide +kernel) (by decide +kernel), mv_in 450 (by decide +kernel) (by decide +kernel), mv_in 451 (by decide +kernel) (by decide +kernel)⟩, rfl, rfl, by decide, ⟨_, _, rfl⟩, by decide +kernel⟩
theorem c_LW_26 : mv_kV "BlockFinderLaw" 26 ki_BF 4 md_BF_frame := ⟨⟨mm_BF_frame, mv_in 172 (by decide +kernel) (by decide +kernel), mv_in 173 (by decide +kernel) (by decide +kernel), mv_in 174 (by decide +kernel) (by decide +kernel)⟩, rfl, rfl, by decide, ⟨_, _, rfl⟩, by decide +kernel⟩
theorem c_LW_29 : mv_kV "BlockFinderLaw" 29 ki_RM 4 md_RM_frame := ⟨⟨mm_RM_frame, mv_in 457 (by decide +kernel) (by decide +kernel), mv_in 458 (by decide +kernel) (by decide +kernel), mv_in 459 (by decide +kernel) (by decide +kernel)⟩, rfl, rfl, by decide, ⟨_, _, rfl⟩, by decide +kernel⟩
theorem c_LW_30 : mv_kV "BlockFinderLaw" 30 ki_BF 0 md_BF_find := ⟨⟨mm_BF_find, mv_in 176 (by decide +kernel) (by decide +kernel), mv_in 177 (by decide +kernel) (by decide +kernel), mv_in 178 (by decide +kernel) (by decide +kernel)⟩, rfl, rfl, by decide, ⟨_, _, rfl⟩, by decide +kernel⟩
theorem c_LW_34 : mv_kV "BlockFinderLaw" 34 ki_RM 0 md_RM_find := ⟨⟨mm_RM_find, mv_in 461 (by decide +kernel) (by decide +kernel), mv_in 462 (by decide +kernel) (by decide +kernel), mv_in 463 (by decide +kernel) (by decide +kernel)⟩, rfl, rfl, by decide, ⟨_, _, rfl⟩, by decide +kernel⟩
theorem c_LW_35 : mv_kV "BlockFinderLaw" 35 ki_BF 2 md_BF_block := ⟨⟨mm_BF_block, mv_in 299 (by decide +kernel) (by decide +kernel), mv_in 300 (by decide +kernel) (by decide +kernel), mv_in 301 (by decide +kernel) (by decide +kernel)⟩, rfl, rfl, by decide, ⟨_, _, rfl⟩, by decide +kernel⟩
theorem c_LW_39 : mv_kV "BlockFinderLaw" 39 ki_RM 2 md_RM_block := ⟨⟨mm_RM_block, mv_in 554 (by decide +kernel) (by decide +kernel), mv_in 555 (by decide +kernel) (by decide +kernel), mv_in 556 (by decide +kernel) (by decide +kernel)⟩, rfl, rfl, by decide, ⟨_, _, rfl⟩, by decide +kernel⟩
theorem c_LW_40 : mv_kV "BlockFinderLaw" 40 ki_BF 3 md_BF_line := ⟨⟨mm_BF_line, mv_in 318 (by decide +kernel) (by decide +kernel), mv_in 319 (by decide +kernel) (by decide +kernel), mv_in 320 (by decide +kernel) (by decide +kernel)⟩, rfl, rfl, by decide, ⟨_, _, rfl⟩, by decide +kernel⟩
theorem c_LW_44 : mv_kV "BlockFinderLaw" 44 ki_RM 3 md_RM_line := ⟨⟨mm_RM_line, mv_in 566 (by decide +kernel) (by decide +kernel), mv_in 567 (by decide +kernel) (by decide +kernel), mv_in 568 (by decide +kernel) (by decide +kernel)⟩, rfl, rfl, by decide, ⟨_, _, rfl⟩, by decide +kernel⟩
theorem c_LW_45 : mv_kV "BlockFinderLaw" 45 ki_BF 1 md_BF_points := ⟨⟨mm_BF_points, mv_in 326 (by decide +kernel) (by decide +kernel), mv_in 327 (by decide +kernel) (by decide +kernel), mv_in 328 (by decide +kernel) (by decide +kernel)⟩, rfl, rfl, by decide, ⟨_, _, rfl⟩, by decide +kernel⟩
theorem c_LW_49 : mv_kV "BlockFinderLaw" 49 ki_RM 1 md_RM_points := ⟨⟨mm_RM_points, mv_in 570 (by decide +kernel) (by decide +kernel), mv_in 571 (by decide +kernel) (by decide +kernel), mv_in 572 (by decide +kernel) (by decide +kernel)⟩, rfl, rfl, by decide, ⟨_, _, rfl⟩, by decide +kernel⟩
theorem c_LW_50 : mv_kV "BlockFinderLaw" 50 ki_BF 1 md_BF_printed := ⟨⟨mm_BF_printed, mv_in 330 (by decide +kernel) (by decide +kernel), mv_in 331 (by decide +kernel) (by decide +kernel), mv_in 332 (by decide +kernel) (by decide +kernel)⟩, rfl, rfl, by decide, ⟨_, _, rfl⟩, by decide +kernel⟩
theorem c_LW_54 : mv_kV "BlockFinderLaw" 54 ki_RM 1 md_RM_printed := ⟨⟨mm_RM_printed, mv_in 574 (by decide +kernel) (by decide +kernel), mv_in 575 (by decide +kernel) (by decide +kernel), mv_in 576 (by decide +kernel) (by decide +kernel)⟩, rfl, rfl, by decide, ⟨_, _, rfl⟩, by decide +kernel⟩
theorem c_LW_55 : mv_kV "BlockFinderLaw" 55 ki_BF 0 md_BF_turned := ⟨⟨mm_BF_turned, mv_in 334 (by decide +kernel) (by decide +kernel), mv_in 335 (by decide +kernel) (by decide +kernel), mv_in 336 (by decide +kernel) (by decide +kernel)⟩, rfl, rfl, by decide, ⟨_, _, rfl⟩, by decide +kernel⟩
theorem c_LW_59 : mv_kV "BlockFinderLaw" 59 ki_RM 0 md_RM_turned := ⟨⟨mm_RM_turned, mv_in 578 (by decide +kernel) (by decide +kernel), mv_in 579 (by decide +kernel) (by decide +kernel), mv_in 580 (by decide +kernel) (by decide +kernel)⟩, rfl, rfl, by decide, ⟨_, _, rfl⟩, by decide +kernel⟩
theorem c_LW_60 : mv_kV "BlockFinderLaw" 60 ki_BF 1 md_BF_blockOf := ⟨⟨mm_BF_blockOf, mv_in 338 (by decide +kernel) (by decide +kernel), mv_in 339 (by decide +kernel) (by decide +kernel), mv_in 340 (by decide +kernel) (by decide +kernel)⟩, rfl, rfl, by decide, ⟨_, _, rfl⟩, by decide +kernel⟩
theorem c_LW_63 : mv_kV "BlockFinderLaw" 63 ki_RM 1 md_RM_blockOf := ⟨⟨mm_RM_blockOf, mv_in 582 (by decide +kernel) (by decide +kernel), mv_in 583 (by decide +kernel) (by decide +kernel), mv_in 584 (by decide +kernel) (by decide +kernel)⟩, rfl, rfl, by decide, ⟨_, _, rfl⟩, by decide +kernel⟩
theorem c_LW_64 : mv_kV "BlockFinderLaw" 64 ki_BF 0 md_BF_candidates := ⟨⟨mm_BF_candidates, mv_in 343 (by decide +kernel) (by decide +kernel), mv_in 344 (by decide +kernel) (by decide +kernel), mv_in 345 (by decide +kernel) (by decide +kernel)⟩, rfl, rfl, by decide, ⟨_, _, rfl⟩, by decide +kernel⟩
theorem c_LW_67 : mv_kV "BlockFinderLaw" 67 ki_RM 0 md_RM_candidates := ⟨⟨mm_RM_candidates, mv_in 586 (by decide +kernel) (by decide +kernel), mv_in 587 (by decide +kernel) (by decide +kernel), mv_in 588 (by decide +kernel) (by decide +kernel)⟩, rfl, rfl, by decide, ⟨_, _, rfl⟩, by decide +kernel⟩
theorem c_LW_68 : mv_kV "BlockFinderLaw" 68 ki_BF 0 md_BF_clear := ⟨⟨mm_BF_clear, mv_in 347 (by decide +kernel) (by decide +kernel), mv_in 348 (by decide +kernel) (by decide +kernel), mv_in 349 (by decide +kernel) (by decide +kernel)⟩, rfl, rfl, by decide, ⟨_, _, rfl⟩, by decide +kernel⟩
theorem c_LW_71 : mv_kV "BlockFinderLaw" 71 ki_RM 0 md_RM_clear := ⟨⟨mm_RM_clear, mv_in 590 (by decide +kernel) (by decide +kernel), mv_in 591 (by decide +kernel) (by decide +kernel), mv_in 592 (by decide +kernel) (by decide +kernel)⟩, rfl, rfl, by decide, ⟨_, _, rfl⟩, by decide +kernel⟩
theorem w_LW_7 : mv_Nw "BlockFinderLaw" 7 ki_BF (mv_l [.inl 0, .inl 0, .inr 0, .inr 0, .inr 0, .inr 0, .inr 0, .inr 0, .inr 0, .inr 0, .inr 0, .inr 0, .inr 0, .inl 0]) := ⟨by decide, mv_ld (by decide), nR_BF, nT_BF, 14, ny_BF, rfl, ni_BF, nt_BF, mv_in 7 (by decide +kernel) (by decide +kernel), mv_in 8 (by decide +kernel) (by decide +kernel), mv_in 1 (by decide +kernel) (by decide +kernel), by decide +kernel⟩
theorem w_BF_7 : mv_Nw "BlockFinder" 7 ki_R (mv_l [.inr 0, .inr 0, .inr 0, .inr 0, .inl 0]) := ⟨by decide, mv_ld (by decide), nR_R, nT_R, 5, ny_R, rfl, ni_R, nt_R, mv_in 15 (by decide +kernel) (by decide +kernel), mv_in 16 (by decide +kernel) (by decide +kernel), mv_in 2 (by decide +kernel) (by decide +kernel), by decide +kernel⟩
theorem w_BF_21 : mv_Nw "BlockFinder" 21 ki_S (mv_l [.inr 0, .inl 0, .inl 0]) := ⟨by decide, mv_ld (by decide), nR_S, nT_S, 3, ny_S, rfl, ni_S, nt_S, mv_in 51 (by decide +kernel) (by decide +kernel), mv_in 52 (by decide +kernel) (by decide +kernel), mv_in 4 (by decide +kernel) (by decide +kernel), by decide +kernel⟩
theorem w_BF_34 : mv_Nw "BlockFinder" 34 ki_G (mv_l [.inr 0, .inr 0, .inr 0, .inr 0, .inr 0, .inr 0, .inr 0]) := ⟨by decide, mv_ld (by decide), nR_G, nT_G, 7, ny_G, rfl, ni_G, nt_G, mv_in 69 (by decide +kernel) (by decide +kernel), mv_in 70 (by decide +kernel) (by decide +kernel), mv_in 5 (by decide +kernel) (by decide +kernel), by decide +kernel⟩
theorem w_G_9 : mv_Nw "BlockFinder$Groups" 9 ki_R (mv_l [.inr 0, .inr 0, .inr 0, .inr 0, .inl 0]) := ⟨by decide, mv_ld (by decide), nR_R, nT_R, 5, ny_R, rfl, ni_R, nt_R, mv_in 75 (by decide +kernel) (by decide +kernel), mv_in 16 (by decide +kernel) (by decide +kernel), mv_in 2 (by decide +kernel) (by decide +kernel), by decide +kernel⟩
theorem w_LW_18 : mv_Nw "BlockFinderLaw" 18 ki_RM (mv_l [.inl 0, .inl 0, .inl 0, .inl 0, .inr 0, .inl 0, .inr 0, .inl 0, .inr 0, .inl 0, .inr 0, .inr 0, .inr 0, .inl 0, .inl 0, .inl 0, .inr 0, .inr 0, .inr 0, .inr 0, .inr 0, .inl 0, .inr 0, .inr 0, .inr 0, .inr 0, .inl 0, .inr 0, .inl 0]) := ⟨by decide, mv_ld (by decide), nR_RM, nT_RM, 29, ny_RM, rfl, ni_RM, nt_RM, mv_in 354 (by decide +kernel) (by decide +kernel), mv_in 355 (by decide +kernel) (by decide +kernel), mv_in 6 (by decide +kernel) (by decide +kernel), by decide +kernel⟩
theorem w_int : Cond.arrayClass .int ∈ mv_tb := mv_in 50 (by decide +kernel) (by decide +kernel)
theorem w_bool : Cond.arrayClass .boolean ∈ mv_tb := mv_in 448 (by decide +kernel) (by decide +kernel)
end
section
theorem d_R_init_0 : decode prog_3_method_1_code 0 = .ok (.aload_n 0, 1) := by decide +kernel
theorem d_R_init_1 : decode prog_3_method_1_code 1 = .ok (.invokespecial 3, 3) := by decide +kernel
theorem d_R_init_4 : decode prog_3_method_1_code 4 = .ok (.aload_n 0, 1) := by decide +kernel
theorem d_R_init_5 : decode prog_3_method_1_code 5 = .ok (.iconst 0, 1) := by decide +kernel
theorem d_R_init_6 : decode prog_3_method_1_code 6 = .ok (.putfield 9, 3) := by decide +kernel
theorem d_R_init_9 : decode prog_3_method_1_code 9 = .ok (.iconst 0, 1) := by decide +kernel
theorem d_R_init_10 : decode prog_3_method_1_code 10 = .ok (.iload_n 1, 1) := by decide +kernel
theorem d_R_init_11 : decode prog_3_method_1_code 11 = .ok (.invokestatic 15, 3) := by decide +kernel
theorem d_R_init_14 : decode prog_3_method_1_code 14 = .ok (.istore_n 2, 1) := by decide +kernel
theorem d_R_init_15 : decode prog_3_method_1_code 15 = .ok (.aload_n 0, 1) := by decide +kernel
theorem d_R_init_16 : decode prog_3_method_1_code 16 = .ok (.iload_n 2, 1) := by decide +kernel
theorem d_R_init_17 : decode prog_3_method_1_code 17 = .ok (.newarray .int, 2) := by decide +kernel
theorem d_R_init_19 : decode prog_3_method_1_code 19 = .ok (.putfield 21, 3) := by decide +kernel
theorem d_R_init_22 : decode prog_3_method_1_code 22 = .ok (.aload_n 0, 1) := by decide +kernel
theorem d_R_init_23 : decode prog_3_method_1_code 23 = .ok (.iload_n 2, 1) := by decide +kernel
theorem d_R_init_24 : decode prog_3_method_1_code 24 = .ok (.newarray .int, 2) := by decide +kernel
theorem d_R_init_26 : decode prog_3_method_1_code 26 = .ok (.putfield 25, 3) := by decide +kernel
theorem d_R_init_29 : decode prog_3_method_1_code 29 = .ok (.aload_n 0, 1) := by decide +kernel
theorem d_R_init_30 : decode prog_3_method_1_code 30 = .ok (.iload_n 2, 1) := by decide +kernel
theorem d_R_init_31 : decode prog_3_method_1_code 31 = .ok (.newarray .int, 2) := by decide +kernel
theorem d_R_init_33 : decode prog_3_method_1_code 33 = .ok (.putfield 28, 3) := by decide +kernel
theorem d_R_init_36 : decode prog_3_method_1_code 36 = .ok (.aload_n 0, 1) := by decide +kernel
theorem d_R_init_37 : decode prog_3_method_1_code 37 = .ok (.iload_n 2, 1) := by decide +kernel
theorem d_R_init_38 : decode prog_3_method_1_code 38 = .ok (.newarray .int, 2) := by decide +kernel
theorem d_R_init_40 : decode prog_3_method_1_code 40 = .ok (.putfield 31, 3) := by decide +kernel
theorem d_R_init_43 : decode prog_3_method_1_code 43 = .ok (.return_, 1) := by decide +kernel
theorem d_R_has_0 : decode prog_3_method_2_code 0 = .ok (.iload_n 1, 1) := by decide +kernel
theorem d_R_has_1 : decode prog_3_method_2_code 1 = .ok (.ifCond .lt 15, 3) := by decide +kernel
theorem d_R_has_4 : decode prog_3_method_2_code 4 = .ok (.iload_n 1, 1) := by decide +kernel
theorem d_R_has_5 : decode prog_3_method_2_code 5 = .ok (.aload_n 0, 1) := by decide +kernel
theorem d_R_has_6 : decode prog_3_method_2_code 6 = .ok (.getfield 9, 3) := by decide +kernel
theorem d_R_has_9 : decode prog_3_method_2_code 9 = .ok (.if_icmp .ge 7, 3) := by decide +kernel
theorem d_R_has_12 : decode prog_3_method_2_code 12 = .ok (.iconst 1, 1) := by decide +kernel
theorem d_R_has_13 : decode prog_3_method_2_code 13 = .ok (.goto 4, 3) := by decide +kernel
theorem d_R_has_16 : decode prog_3_method_2_code 16 = .ok (.iconst 0, 1) := by decide +kernel
theorem d_R_has_17 : decode prog_3_method_2_code 17 = .ok (.ireturn, 1) := by decide +kernel
theorem d_R_add_0 : decode prog_3_method_3_code 0 = .ok (.aload_n 0, 1) := by decide +kernel
theorem d_R_add_1 : decode prog_3_method_3_code 1 = .ok (.getfield 9, 3) := by decide +kernel
theorem d_R_add_4 : decode prog_3_method_3_code 4 = .ok (.aload_n 0, 1) := by decide +kernel
theorem d_R_add_5 : decode prog_3_method_3_code 5 = .ok (.getfield 21, 3) := by decide +kernel
theorem d_R_add_8 : decode prog_3_method_3_code 8 = .ok (.arraylength, 1) := by decide +kernel
theorem d_R_add_9 : decode prog_3_method_3_code 9 = .ok (.if_icmp .lt 6, 3) := by decide +kernel
theorem d_R_add_12 : decode prog_3_method_3_code 12 = .ok (.bipush (-14), 2) := by decide +kernel
theorem d_R_add_14 : decode prog_3_method_3_code 14 = .ok (.ireturn, 1) := by decide +kernel
theorem d_R_add_15 : decode prog_3_method_3_code 15 = .ok (.aload_n 0, 1) := by decide +kernel
theorem d_R_add_16 : decode prog_3_method_3_code 16 = .ok (.getfield 9, 3) := by decide +kernel
theorem d_R_add_19 : decode prog_3_method_3_code 19 = .ok (.istore 5, 2) := by decide +kernel
theorem d_R_add_21 : decode prog_3_method_3_code 21 = .ok (.aload_n 0, 1) := by decide +kernel
theorem d_R_add_22 : decode prog_3_method_3_code 22 = .ok (.getfield 21, 3) := by decide +kernel
theorem d_R_add_25 : decode prog_3_method_3_code 25 = .ok (.iload 5, 2) := by decide +kernel
theorem d_R_add_27 : decode prog_3_method_3_code 27 = .ok (.iload_n 1, 1) := by decide +kernel
theorem d_R_add_28 : decode prog_3_method_3_code 28 = .ok (.iastore, 1) := by decide +kernel
theorem d_R_add_29 : decode prog_3_method_3_code 29 = .ok (.aload_n 0, 1) := by decide +kernel
theorem d_R_add_30 : decode prog_3_method_3_code 30 = .ok (.getfield 25, 3) := by decide +kernel
theorem d_R_add_33 : decode prog_3_method_3_code 33 = .ok (.iload 5, 2) := by decide +kernel
theorem d_R_add_35 : decode prog_3_method_3_code 35 = .ok (.iload_n 2, 1) := by decide +kernel
theorem d_R_add_36 : decode prog_3_method_3_code 36 = .ok (.iastore, 1) := by decide +kernel
theorem d_R_add_37 : decode prog_3_method_3_code 37 = .ok (.aload_n 0, 1) := by decide +kernel
theorem d_R_add_38 : decode prog_3_method_3_code 38 = .ok (.getfield 28, 3) := by decide +kernel
theorem d_R_add_41 : decode prog_3_method_3_code 41 = .ok (.iload 5, 2) := by decide +kernel
theorem d_R_add_43 : decode prog_3_method_3_code 43 = .ok (.iload_n 3, 1) := by decide +kernel
theorem d_R_add_44 : decode prog_3_method_3_code 44 = .ok (.iastore, 1) := by decide +kernel
theorem d_R_add_45 : decode prog_3_method_3_code 45 = .ok (.aload_n 0, 1) := by decide +kernel
theorem d_R_add_46 : decode prog_3_method_3_code 46 = .ok (.getfield 31, 3) := by decide +kernel
theorem d_R_add_49 : decode prog_3_method_3_code 49 = .ok (.iload 5, 2) := by decide +kernel
theorem d_R_add_51 : decode prog_3_method_3_code 51 = .ok (.iload 4, 2) := by decide +kernel
theorem d_R_add_53 : decode prog_3_method_3_code 53 = .ok (.iastore, 1) := by decide +kernel
theorem d_R_add_54 : decode prog_3_method_3_code 54 = .ok (.aload_n 0, 1) := by decide +kernel
theorem d_R_add_55 : decode prog_3_method_3_code 55 = .ok (.dup, 1) := by decide +kernel
theorem d_R_add_56 : decode prog_3_method_3_code 56 = .ok (.getfield 9, 3) := by decide +kernel
theorem d_R_add_59 : decode prog_3_method_3_code 59 = .ok (.iconst 1, 1) := by decide +kernel
theorem d_R_add_60 : decode prog_3_method_3_code 60 = .ok (.iadd, 1) := by decide +kernel
theorem d_R_add_61 : decode prog_3_method_3_code 61 = .ok (.putfield 9, 3) := by decide +kernel
theorem d_R_add_64 : decode prog_3_method_3_code 64 = .ok (.iload 5, 2) := by decide +kernel
theorem d_R_add_66 : decode prog_3_method_3_code 66 = .ok (.ireturn, 1) := by decide +kernel
theorem d_R_stretchOver_0 : decode prog_3_method_4_code 0 = .ok (.aload_n 0, 1) := by decide +kernel
theorem d_R_stretchOver_1 : decode prog_3_method_4_code 1 = .ok (.getfield 21, 3) := by decide +kernel
theorem d_R_stretchOver_4 : decode prog_3_method_4_code 4 = .ok (.iload_n 1, 1) := by decide +kernel
theorem d_R_stretchOver_5 : decode prog_3_method_4_code 5 = .ok (.aload_n 0, 1) := by decide +kernel
theorem d_R_stretchOver_6 : decode prog_3_method_4_code 6 = .ok (.getfield 21, 3) := by decide +kernel
theorem d_R_stretchOver_9 : decode prog_3_method_4_code 9 = .ok (.iload_n 1, 1) := by decide +kernel
theorem d_R_stretchOver_10 : decode prog_3_method_4_code 10 = .ok (.iaload, 1) := by decide +kernel
theorem d_R_stretchOver_11 : decode prog_3_method_4_code 11 = .ok (.aload_n 2, 1) := by decide +kernel
theorem d_R_stretchOver_12 : decode prog_3_method_4_code 12 = .ok (.getfield 21, 3) := by decide +kernel
theorem d_R_stretchOver_15 : decode prog_3_method_4_code 15 = .ok (.iload_n 3, 1) := by decide +kernel
theorem d_R_stretchOver_16 : decode prog_3_method_4_code 16 = .ok (.iaload, 1) := by decide +kernel
theorem d_R_stretchOver_17 : decode prog_3_method_4_code 17 = .ok (.invokestatic 34, 3) := by decide +kernel
theorem d_R_stretchOver_20 : decode prog_3_method_4_code 20 = .ok (.iastore, 1) := by decide +kernel
theorem d_R_stretchOver_21 : decode prog_3_method_4_code 21 = .ok (.aload_n 0, 1) := by decide +kernel
theorem d_R_stretchOver_22 : decode prog_3_method_4_code 22 = .ok (.getfield 25, 3) := by decide +kernel
theorem d_R_stretchOver_25 : decode prog_3_method_4_code 25 = .ok (.iload_n 1, 1) := by decide +kernel
theorem d_R_stretchOver_26 : decode prog_3_method_4_code 26 = .ok (.aload_n 0, 1) := by decide +kernel
theorem d_R_stretchOver_27 : decode prog_3_method_4_code 27 = .ok (.getfield 25, 3) := by decide +kernel
theorem d_R_stretchOver_30 : decode prog_3_method_4_code 30 = .ok (.iload_n 1, 1) := by decide +kernel
theorem d_R_stretchOver_31 : decode prog_3_method_4_code 31 = .ok (.iaload, 1) := by decide +kernel
theorem d_R_stretchOver_32 : decode prog_3_method_4_code 32 = .ok (.aload_n 2, 1) := by decide +kernel
theorem d_R_stretchOver_33 : decode prog_3_method_4_code 33 = .ok (.getfield 25, 3) := by decide +kernel
theorem d_R_stretchOver_36 : decode prog_3_method_4_code 36 = .ok (.iload_n 3, 1) := by decide +kernel
theorem d_R_stretchOver_37 : decode prog_3_method_4_code 37 = .ok (.iaload, 1) := by decide +kernel
theorem d_R_stretchOver_38 : decode prog_3_method_4_code 38 = .ok (.invokestatic 34, 3) := by decide +kernel
theorem d_R_stretchOver_41 : decode prog_3_method_4_code 41 = .ok (.iastore, 1) := by decide +kernel
theorem d_R_stretchOver_42 : decode prog_3_method_4_code 42 = .ok (.aload_n 0, 1) := by decide +kernel
theorem d_R_stretchOver_43 : decode prog_3_method_4_code 43 = .ok (.getfield 28, 3) := by decide +kernel
theorem d_R_stretchOver_46 : decode prog_3_method_4_code 46 = .ok (.iload_n 1, 1) := by decide +kernel
theorem d_R_stretchOver_47 : decode prog_3_method_4_code 47 = .ok (.aload_n 0, 1) := by decide +kernel
theorem d_R_stretchOver_48 : decode prog_3_method_4_code 48 = .ok (.getfield 28, 3) := by decide +kernel
theorem d_R_stretchOver_51 : decode prog_3_method_4_code 51 = .ok (.iload_n 1, 1) := by decide +kernel
theorem d_R_stretchOver_52 : decode prog_3_method_4_code 52 = .ok (.iaload, 1) := by decide +kernel
theorem d_R_stretchOver_53 : decode prog_3_method_4_code 53 = .ok (.aload_n 2, 1) := by decide +kernel
theorem d_R_stretchOver_54 : decode prog_3_method_4_code 54 = .ok (.getfield 28, 3) := by decide +kernel
theorem d_R_stretchOver_57 : decode prog_3_method_4_code 57 = .ok (.iload_n 3, 1) := by decide +kernel
theorem d_R_stretchOver_58 : decode prog_3_method_4_code 58 = .ok (.iaload, 1) := by decide +kernel
theorem d_R_stretchOver_59 : decode prog_3_method_4_code 59 = .ok (.invokestatic 15, 3) := by decide +kernel
theorem d_R_stretchOver_62 : decode prog_3_method_4_code 62 = .ok (.iastore, 1) := by decide +kernel
theorem d_R_stretchOver_63 : decode prog_3_method_4_code 63 = .ok (.aload_n 0, 1) := by decide +kernel
theorem d_R_stretchOver_64 : decode prog_3_method_4_code 64 = .ok (.getfield 31, 3) := by decide +kernel
theorem d_R_stretchOver_67 : decode prog_3_method_4_code 67 = .ok (.iload_n 1, 1) := by decide +kernel
theorem d_R_stretchOver_68 : decode prog_3_method_4_code 68 = .ok (.aload_n 0, 1) := by decide +kernel
theorem d_R_stretchOver_69 : decode prog_3_method_4_code 69 = .ok (.getfield 31, 3) := by decide +kernel
theorem d_R_stretchOver_72 : decode prog_3_method_4_code 72 = .ok (.iload_n 1, 1) := by decide +kernel
theorem d_R_stretchOver_73 : decode prog_3_method_4_code 73 = .ok (.iaload, 1) := by decide +kernel
theorem d_R_stretchOver_74 : decode prog_3_method_4_code 74 = .ok (.aload_n 2, 1) := by decide +kernel
theorem d_R_stretchOver_75 : decode prog_3_method_4_code 75 = .ok (.getfield 31, 3) := by decide +kernel
theorem d_R_stretchOver_78 : decode prog_3_method_4_code 78 = .ok (.iload_n 3, 1) := by decide +kernel
theorem d_R_stretchOver_79 : decode prog_3_method_4_code 79 = .ok (.iaload, 1) := by decide +kernel
theorem d_R_stretchOver_80 : decode prog_3_method_4_code 80 = .ok (.invokestatic 15, 3) := by decide +kernel
theorem d_R_stretchOver_83 : decode prog_3_method_4_code 83 = .ok (.iastore, 1) := by decide +kernel
theorem d_R_stretchOver_84 : decode prog_3_method_4_code 84 = .ok (.return_, 1) := by decide +kernel
theorem d_R_encloses_0 : decode prog_3_method_5_code 0 = .ok (.aload_n 0, 1) := by decide +kernel
theorem d_R_encloses_1 : decode prog_3_method_5_code 1 = .ok (.getfield 21, 3) := by decide +kernel
theorem d_R_encloses_4 : decode prog_3_method_5_code 4 = .ok (.iload_n 1, 1) := by decide +kernel
theorem d_R_encloses_5 : decode prog_3_method_5_code 5 = .ok (.iaload, 1) := by decide +kernel
theorem d_R_encloses_6 : decode prog_3_method_5_code 6 = .ok (.aload_n 2, 1) := by decide +kernel
theorem d_R_encloses_7 : decode prog_3_method_5_code 7 = .ok (.getfield 21, 3) := by decide +kernel
theorem d_R_encloses_10 : decode prog_3_method_5_code 10 = .ok (.iload_n 3, 1) := by decide +kernel
theorem d_R_encloses_11 : decode prog_3_method_5_code 11 = .ok (.iaload, 1) := by decide +kernel
theorem d_R_encloses_12 : decode prog_3_method_5_code 12 = .ok (.if_icmp .gt 52, 3) := by decide +kernel
theorem d_R_encloses_15 : decode prog_3_method_5_code 15 = .ok (.aload_n 0, 1) := by decide +kernel
theorem d_R_encloses_16 : decode prog_3_method_5_code 16 = .ok (.getfield 28, 3) := by decide +kernel
theorem d_R_encloses_19 : decode prog_3_method_5_code 19 = .ok (.iload_n 1, 1) := by decide +kernel
theorem d_R_encloses_20 : decode prog_3_method_5_code 20 = .ok (.iaload, 1) := by decide +kernel
theorem d_R_encloses_21 : decode prog_3_method_5_code 21 = .ok (.aload_n 2, 1) := by decide +kernel
theorem d_R_encloses_22 : decode prog_3_method_5_code 22 = .ok (.getfield 28, 3) := by decide +kernel
theorem d_R_encloses_25 : decode prog_3_method_5_code 25 = .ok (.iload_n 3, 1) := by decide +kernel
theorem d_R_encloses_26 : decode prog_3_method_5_code 26 = .ok (.iaload, 1) := by decide +kernel
theorem d_R_encloses_27 : decode prog_3_method_5_code 27 = .ok (.if_icmp .lt 37, 3) := by decide +kernel
theorem d_R_encloses_30 : decode prog_3_method_5_code 30 = .ok (.aload_n 0, 1) := by decide +kernel
theorem d_R_encloses_31 : decode prog_3_method_5_code 31 = .ok (.getfield 25, 3) := by decide +kernel
theorem d_R_encloses_34 : decode prog_3_method_5_code 34 = .ok (.iload_n 1, 1) := by decide +kernel
theorem d_R_encloses_35 : decode prog_3_method_5_code 35 = .ok (.iaload, 1) := by decide +kernel
theorem d_R_encloses_36 : decode prog_3_method_5_code 36 = .ok (.aload_n 2, 1) := by decide +kernel
theorem d_R_encloses_37 : decode prog_3_method_5_code 37 = .ok (.getfield 25, 3) := by decide +kernel
theorem d_R_encloses_40 : decode prog_3_method_5_code 40 = .ok (.iload_n 3, 1) := by decide +kernel
theorem d_R_encloses_41 : decode prog_3_method_5_code 41 = .ok (.iaload, 1) := by decide +kernel
theorem d_R_encloses_42 : decode prog_3_method_5_code 42 = .ok (.if_icmp .gt 22, 3) := by decide +kernel
theorem d_R_encloses_45 : decode prog_3_method_5_code 45 = .ok (.aload_n 0, 1) := by decide +kernel
theorem d_R_encloses_46 : decode prog_3_method_5_code 46 = .ok (.getfield 31, 3) := by decide +kernel
theorem d_R_encloses_49 : decode prog_3_method_5_code 49 = .ok (.iload_n 1, 1) := by decide +kernel
theorem d_R_encloses_50 : decode prog_3_method_5_code 50 = .ok (.iaload, 1) := by decide +kernel
theorem d_R_encloses_51 : decode prog_3_method_5_code 51 = .ok (.aload_n 2, 1) := by decide +kernel
theorem d_R_encloses_52 : decode prog_3_method_5_code 52 = .ok (.getfield 31, 3) := by decide +kernel
theorem d_R_encloses_55 : decode prog_3_method_5_code 55 = .ok (.iload_n 3, 1) := by decide +kernel
theorem d_R_encloses_56 : decode prog_3_method_5_code 56 = .ok (.iaload, 1) := by decide +kernel
theorem d_R_encloses_57 : decode prog_3_method_5_code 57 = .ok (.if_icmp .lt 7, 3) := by decide +kernel
theorem d_R_encloses_60 : decode prog_3_method_5_code 60 = .ok (.iconst 1, 1) := by decide +kernel
theorem d_R_encloses_61 : decode prog_3_method_5_code 61 = .ok (.goto 4, 3) := by decide +kernel
theorem d_R_encloses_64 : decode prog_3_method_5_code 64 = .ok (.iconst 0, 1) := by decide +kernel
theorem d_R_encloses_65 : decode prog_3_method_5_code 65 = .ok (.ireturn, 1) := by decide +kernel
theorem d_R_area_0 : decode prog_3_method_6_code 0 = .ok (.aload_n 0, 1) := by decide +kernel
theorem d_R_area_1 : decode prog_3_method_6_code 1 = .ok (.getfield 28, 3) := by decide +kernel
theorem d_R_area_4 : decode prog_3_method_6_code 4 = .ok (.iload_n 1, 1) := by decide +kernel
theorem d_R_area_5 : decode prog_3_method_6_code 5 = .ok (.iaload, 1) := by decide +kernel
theorem d_R_area_6 : decode prog_3_method_6_code 6 = .ok (.aload_n 0, 1) := by decide +kernel
theorem d_R_area_7 : decode prog_3_method_6_code 7 = .ok (.getfield 21, 3) := by decide +kernel
theorem d_R_area_10 : decode prog_3_method_6_code 10 = .ok (.iload_n 1, 1) := by decide +kernel
theorem d_R_area_11 : decode prog_3_method_6_code 11 = .ok (.iaload, 1) := by decide +kernel
theorem d_R_area_12 : decode prog_3_method_6_code 12 = .ok (.isub, 1) := by decide +kernel
theorem d_R_area_13 : decode prog_3_method_6_code 13 = .ok (.aload_n 0, 1) := by decide +kernel
theorem d_R_area_14 : decode prog_3_method_6_code 14 = .ok (.getfield 31, 3) := by decide +kernel
theorem d_R_area_17 : decode prog_3_method_6_code 17 = .ok (.iload_n 1, 1) := by decide +kernel
theorem d_R_area_18 : decode prog_3_method_6_code 18 = .ok (.iaload, 1) := by decide +kernel
theorem d_R_area_19 : decode prog_3_method_6_code 19 = .ok (.aload_n 0, 1) := by decide +kernel
theorem d_R_area_20 : decode prog_3_method_6_code 20 = .ok (.getfield 25, 3) := by decide +kernel
theorem d_R_area_23 : decode prog_3_method_6_code 23 = .ok (.iload_n 1, 1) := by decide +kernel
theorem d_R_area_24 : decode prog_3_method_6_code 24 = .ok (.iaload, 1) := by decide +kernel
theorem d_R_area_25 : decode prog_3_method_6_code 25 = .ok (.isub, 1) := by decide +kernel
theorem d_R_area_26 : decode prog_3_method_6_code 26 = .ok (.imul, 1) := by decide +kernel
theorem d_R_area_27 : decode prog_3_method_6_code 27 = .ok (.ireturn, 1) := by decide +kernel
theorem d_R_side_0 : decode prog_3_method_7_code 0 = .ok (.iload_n 2, 1) := by decide +kernel
theorem d_R_side_1 : decode prog_3_method_7_code 1 = .ok (.tableswitch 55 0 2 #[27, 34, 41], 27) := by decide +kernel
theorem d_R_side_28 : decode prog_3_method_7_code 28 = .ok (.aload_n 0, 1) := by decide +kernel
theorem d_R_side_29 : decode prog_3_method_7_code 29 = .ok (.getfield 21, 3) := by decide +kernel
theorem d_R_side_32 : decode prog_3_method_7_code 32 = .ok (.iload_n 1, 1) := by decide +kernel
theorem d_R_side_33 : decode prog_3_method_7_code 33 = .ok (.iaload, 1) := by decide +kernel
theorem d_R_side_34 : decode prog_3_method_7_code 34 = .ok (.ireturn, 1) := by decide +kernel
theorem d_R_side_35 : decode prog_3_method_7_code 35 = .ok (.aload_n 0, 1) := by decide +kernel
theorem d_R_side_36 : decode prog_3_method_7_code 36 = .ok (.getfield 25, 3) := by decide +kernel
theorem d_R_side_39 : decode prog_3_method_7_code 39 = .ok (.iload_n 1, 1) := by decide +kernel
theorem d_R_side_40 : decode prog_3_method_7_code 40 = .ok (.iaload, 1) := by decide +kernel
theorem d_R_side_41 : decode prog_3_method_7_code 41 = .ok (.ireturn, 1) := by decide +kernel
theorem d_R_side_42 : decode prog_3_method_7_code 42 = .ok (.aload_n 0, 1) := by decide +kernel
theorem d_R_side_43 : decode prog_3_method_7_code 43 = .ok (.getfield 28, 3) := by decide +kernel
theorem d_R_side_46 : decode prog_3_method_7_code 46 = .ok (.iload_n 1, 1) := by decide +kernel
theorem d_R_side_47 : decode prog_3_method_7_code 47 = .ok (.iaload, 1) := by decide +kernel
theorem d_R_side_48 : decode prog_3_method_7_code 48 = .ok (.aload_n 0, 1) := by decide +kernel
theorem d_R_side_49 : decode prog_3_method_7_code 49 = .ok (.getfield 21, 3) := by decide +kernel
theorem d_R_side_52 : decode prog_3_method_7_code 52 = .ok (.iload_n 1, 1) := by decide +kernel
theorem d_R_side_53 : decode prog_3_method_7_code 53 = .ok (.iaload, 1) := by decide +kernel
theorem d_R_side_54 : decode prog_3_method_7_code 54 = .ok (.isub, 1) := by decide +kernel
theorem d_R_side_55 : decode prog_3_method_7_code 55 = .ok (.ireturn, 1) := by decide +kernel
theorem d_R_side_56 : decode prog_3_method_7_code 56 = .ok (.aload_n 0, 1) := by decide +kernel
theorem d_R_side_57 : decode prog_3_method_7_code 57 = .ok (.getfield 31, 3) := by decide +kernel
theorem d_R_side_60 : decode prog_3_method_7_code 60 = .ok (.iload_n 1, 1) := by decide +kernel
theorem d_R_side_61 : decode prog_3_method_7_code 61 = .ok (.iaload, 1) := by decide +kernel
theorem d_R_side_62 : decode prog_3_method_7_code 62 = .ok (.aload_n 0, 1) := by decide +kernel
theorem d_R_side_63 : decode prog_3_method_7_code 63 = .ok (.getfield 25, 3) := by decide +kernel
theorem d_R_side_66 : decode prog_3_method_7_code 66 = .ok (.iload_n 1, 1) := by decide +kernel
theorem d_R_side_67 : decode prog_3_method_7_code 67 = .ok (.iaload, 1) := by decide +kernel
theorem d_R_side_68 : decode prog_3_method_7_code 68 = .ok (.isub, 1) := by decide +kernel
theorem d_R_side_69 : decode prog_3_method_7_code 69 = .ok (.ireturn, 1) := by decide +kernel
theorem d_R_leftEnd_0 : decode prog_3_method_8_code 0 = .ok (.iload_n 2, 1) := by decide +kernel
theorem d_R_leftEnd_1 : decode prog_3_method_8_code 1 = .ok (.ifCond .eq 12, 3) := by decide +kernel
theorem d_R_leftEnd_4 : decode prog_3_method_8_code 4 = .ok (.aload_n 0, 1) := by decide +kernel
theorem d_R_leftEnd_5 : decode prog_3_method_8_code 5 = .ok (.getfield 25, 3) := by decide +kernel
theorem d_R_leftEnd_8 : decode prog_3_method_8_code 8 = .ok (.iload_n 1, 1) := by decide +kernel
theorem d_R_leftEnd_9 : decode prog_3_method_8_code 9 = .ok (.iaload, 1) := by decide +kernel
theorem d_R_leftEnd_10 : decode prog_3_method_8_code 10 = .ok (.goto 9, 3) := by decide +kernel
theorem d_R_leftEnd_13 : decode prog_3_method_8_code 13 = .ok (.aload_n 0, 1) := by decide +kernel
theorem d_R_leftEnd_14 : decode prog_3_method_8_code 14 = .ok (.getfield 21, 3) := by decide +kernel
theorem d_R_leftEnd_17 : decode prog_3_method_8_code 17 = .ok (.iload_n 1, 1) := by decide +kernel
theorem d_R_leftEnd_18 : decode prog_3_method_8_code 18 = .ok (.iaload, 1) := by decide +kernel
theorem d_R_leftEnd_19 : decode prog_3_method_8_code 19 = .ok (.ireturn, 1) := by decide +kernel
theorem d_R_upperEnd_0 : decode prog_3_method_9_code 0 = .ok (.iload_n 2, 1) := by decide +kernel
theorem d_R_upperEnd_1 : decode prog_3_method_9_code 1 = .ok (.ifCond .eq 12, 3) := by decide +kernel
theorem d_R_upperEnd_4 : decode prog_3_method_9_code 4 = .ok (.aload_n 0, 1) := by decide +kernel
theorem d_R_upperEnd_5 : decode prog_3_method_9_code 5 = .ok (.getfield 21, 3) := by decide +kernel
theorem d_R_upperEnd_8 : decode prog_3_method_9_code 8 = .ok (.iload_n 1, 1) := by decide +kernel
theorem d_R_upperEnd_9 : decode prog_3_method_9_code 9 = .ok (.iaload, 1) := by decide +kernel
theorem d_R_upperEnd_10 : decode prog_3_method_9_code 10 = .ok (.goto 9, 3) := by decide +kernel
theorem d_R_upperEnd_13 : decode prog_3_method_9_code 13 = .ok (.aload_n 0, 1) := by decide +kernel
theorem d_R_upperEnd_14 : decode prog_3_method_9_code 14 = .ok (.getfield 25, 3) := by decide +kernel
theorem d_R_upperEnd_17 : decode prog_3_method_9_code 17 = .ok (.iload_n 1, 1) := by decide +kernel
theorem d_R_upperEnd_18 : decode prog_3_method_9_code 18 = .ok (.iaload, 1) := by decide +kernel
theorem d_R_upperEnd_19 : decode prog_3_method_9_code 19 = .ok (.ireturn, 1) := by decide +kernel
theorem d_R_rightEnd_0 : decode prog_3_method_10_code 0 = .ok (.iload_n 2, 1) := by decide +kernel
theorem d_R_rightEnd_1 : decode prog_3_method_10_code 1 = .ok (.ifCond .eq 12, 3) := by decide +kernel
theorem d_R_rightEnd_4 : decode prog_3_method_10_code 4 = .ok (.aload_n 0, 1) := by decide +kernel
theorem d_R_rightEnd_5 : decode prog_3_method_10_code 5 = .ok (.getfield 31, 3) := by decide +kernel
theorem d_R_rightEnd_8 : decode prog_3_method_10_code 8 = .ok (.iload_n 1, 1) := by decide +kernel
theorem d_R_rightEnd_9 : decode prog_3_method_10_code 9 = .ok (.iaload, 1) := by decide +kernel
theorem d_R_rightEnd_10 : decode prog_3_method_10_code 10 = .ok (.goto 9, 3) := by decide +kernel
theorem d_R_rightEnd_13 : decode prog_3_method_10_code 13 = .ok (.aload_n 0, 1) := by decide +kernel
theorem d_R_rightEnd_14 : decode prog_3_method_10_code 14 = .ok (.getfield 28, 3) := by decide +kernel
theorem d_R_rightEnd_17 : decode prog_3_method_10_code 17 = .ok (.iload_n 1, 1) := by decide +kernel
theorem d_R_rightEnd_18 : decode prog_3_method_10_code 18 = .ok (.iaload, 1) := by decide +kernel
theorem d_R_rightEnd_19 : decode prog_3_method_10_code 19 = .ok (.ireturn, 1) := by decide +kernel
theorem d_R_lowerEnd_0 : decode prog_3_method_11_code 0 = .ok (.iload_n 2, 1) := by decide +kernel
theorem d_R_lowerEnd_1 : decode prog_3_method_11_code 1 = .ok (.ifCond .eq 12, 3) := by decide +kernel
theorem d_R_lowerEnd_4 : decode prog_3_method_11_code 4 = .ok (.aload_n 0, 1) := by decide +kernel
theorem d_R_lowerEnd_5 : decode prog_3_method_11_code 5 = .ok (.getfield 28, 3) := by decide +kernel
theorem d_R_lowerEnd_8 : decode prog_3_method_11_code 8 = .ok (.iload_n 1, 1) := by decide +kernel
theorem d_R_lowerEnd_9 : decode prog_3_method_11_code 9 = .ok (.iaload, 1) := by decide +kernel
theorem d_R_lowerEnd_10 : decode prog_3_method_11_code 10 = .ok (.goto 9, 3) := by decide +kernel
theorem d_R_lowerEnd_13 : decode prog_3_method_11_code 13 = .ok (.aload_n 0, 1) := by decide +kernel
theorem d_R_lowerEnd_14 : decode prog_3_method_11_code 14 = .ok (.getfield 31, 3) := by decide +kernel
theorem d_R_lowerEnd_17 : decode prog_3_method_11_code 17 = .ok (.iload_n 1, 1) := by decide +kernel
theorem d_R_lowerEnd_18 : decode prog_3_method_11_code 18 = .ok (.iaload, 1) := by decide +kernel
theorem d_R_lowerEnd_19 : decode prog_3_method_11_code 19 = .ok (.ireturn, 1) := by decide +kernel
theorem d_R_height_0 : decode prog_3_method_12_code 0 = .ok (.aload_n 0, 1) := by decide +kernel
theorem d_R_height_1 : decode prog_3_method_12_code 1 = .ok (.iload_n 1, 1) := by decide +kernel
theorem d_R_height_2 : decode prog_3_method_12_code 2 = .ok (.iload_n 2, 1) := by decide +kernel
theorem d_R_height_3 : decode prog_3_method_12_code 3 = .ok (.invokevirtual 37, 3) := by decide +kernel
theorem d_R_height_6 : decode prog_3_method_12_code 6 = .ok (.aload_n 0, 1) := by decide +kernel
theorem d_R_height_7 : decode prog_3_method_12_code 7 = .ok (.iload_n 1, 1) := by decide +kernel
theorem d_R_height_8 : decode prog_3_method_12_code 8 = .ok (.iload_n 2, 1) := by decide +kernel
theorem d_R_height_9 : decode prog_3_method_12_code 9 = .ok (.invokevirtual 41, 3) := by decide +kernel
theorem d_R_height_12 : decode prog_3_method_12_code 12 = .ok (.isub, 1) := by decide +kernel
theorem d_R_height_13 : decode prog_3_method_12_code 13 = .ok (.ireturn, 1) := by decide +kernel
theorem d_R_areNearAsBoxes_0 : decode prog_3_method_13_code 0 = .ok (.aload_n 0, 1) := by decide +kernel
theorem d_R_areNearAsBoxes_1 : decode prog_3_method_13_code 1 = .ok (.iload_n 1, 1) := by decide +kernel
theorem d_R_areNearAsBoxes_2 : decode prog_3_method_13_code 2 = .ok (.iload_n 3, 1) := by decide +kernel
theorem d_R_areNearAsBoxes_3 : decode prog_3_method_13_code 3 = .ok (.invokevirtual 44, 3) := by decide +kernel
theorem d_R_areNearAsBoxes_6 : decode prog_3_method_13_code 6 = .ok (.aload_n 0, 1) := by decide +kernel
theorem d_R_areNearAsBoxes_7 : decode prog_3_method_13_code 7 = .ok (.iload_n 2, 1) := by decide +kernel
theorem d_R_areNearAsBoxes_8 : decode prog_3_method_13_code 8 = .ok (.iload_n 3, 1) := by decide +kernel
theorem d_R_areNearAsBoxes_9 : decode prog_3_method_13_code 9 = .ok (.invokevirtual 44, 3) := by decide +kernel
theorem d_R_areNearAsBoxes_12 : decode prog_3_method_13_code 12 = .ok (.invokestatic 34, 3) := by decide +kernel
theorem d_R_areNearAsBoxes_15 : decode prog_3_method_13_code 15 = .ok (.istore 4, 2) := by decide +kernel
theorem d_R_areNearAsBoxes_17 : decode prog_3_method_13_code 17 = .ok (.aload_n 0, 1) := by decide +kernel
theorem d_R_areNearAsBoxes_18 : decode prog_3_method_13_code 18 = .ok (.iload_n 1, 1) := by decide +kernel
theorem d_R_areNearAsBoxes_19 : decode prog_3_method_13_code 19 = .ok (.iload_n 3, 1) := by decide +kernel
theorem d_R_areNearAsBoxes_20 : decode prog_3_method_13_code 20 = .ok (.invokevirtual 44, 3) := by decide +kernel
theorem d_R_areNearAsBoxes_23 : decode prog_3_method_13_code 23 = .ok (.aload_n 0, 1) := by decide +kernel
theorem d_R_areNearAsBoxes_24 : decode prog_3_method_13_code 24 = .ok (.iload_n 2, 1) := by decide +kernel
theorem d_R_areNearAsBoxes_25 : decode prog_3_method_13_code 25 = .ok (.iload_n 3, 1) := by decide +kernel
theorem d_R_areNearAsBoxes_26 : decode prog_3_method_13_code 26 = .ok (.invokevirtual 44, 3) := by decide +kernel
theorem d_R_areNearAsBoxes_29 : decode prog_3_method_13_code 29 = .ok (.invokestatic 15, 3) := by decide +kernel
theorem d_R_areNearAsBoxes_32 : decode prog_3_method_13_code 32 = .ok (.istore 5, 2) := by decide +kernel
theorem d_R_areNearAsBoxes_34 : decode prog_3_method_13_code 34 = .ok (.aload_n 0, 1) := by decide +kernel
theorem d_R_areNearAsBoxes_35 : decode prog_3_method_13_code 35 = .ok (.iload_n 1, 1) := by decide +kernel
theorem d_R_areNearAsBoxes_36 : decode prog_3_method_13_code 36 = .ok (.iload_n 3, 1) := by decide +kernel
theorem d_R_areNearAsBoxes_37 : decode prog_3_method_13_code 37 = .ok (.invokevirtual 47, 3) := by decide +kernel
theorem d_R_areNearAsBoxes_40 : decode prog_3_method_13_code 40 = .ok (.aload_n 0, 1) := by decide +kernel
theorem d_R_areNearAsBoxes_41 : decode prog_3_method_13_code 41 = .ok (.iload_n 2, 1) := by decide +kernel
theorem d_R_areNearAsBoxes_42 : decode prog_3_method_13_code 42 = .ok (.iload_n 3, 1) := by decide +kernel
theorem d_R_areNearAsBoxes_43 : decode prog_3_method_13_code 43 = .ok (.invokevirtual 47, 3) := by decide +kernel
theorem d_R_areNearAsBoxes_46 : decode prog_3_method_13_code 46 = .ok (.invokestatic 15, 3) := by decide +kernel
theorem d_R_areNearAsBoxes_49 : decode prog_3_method_13_code 49 = .ok (.aload_n 0, 1) := by decide +kernel
theorem d_R_areNearAsBoxes_50 : decode prog_3_method_13_code 50 = .ok (.iload_n 1, 1) := by decide +kernel
theorem d_R_areNearAsBoxes_51 : decode prog_3_method_13_code 51 = .ok (.iload_n 3, 1) := by decide +kernel
theorem d_R_areNearAsBoxes_52 : decode prog_3_method_13_code 52 = .ok (.invokevirtual 50, 3) := by decide +kernel
theorem d_R_areNearAsBoxes_55 : decode prog_3_method_13_code 55 = .ok (.aload_n 0, 1) := by decide +kernel
theorem d_R_areNearAsBoxes_56 : decode prog_3_method_13_code 56 = .ok (.iload_n 2, 1) := by decide +kernel
theorem d_R_areNearAsBoxes_57 : decode prog_3_method_13_code 57 = .ok (.iload_n 3, 1) := by decide +kernel
theorem d_R_areNearAsBoxes_58 : decode prog_3_method_13_code 58 = .ok (.invokevirtual 50, 3) := by decide +kernel
theorem d_R_areNearAsBoxes_61 : decode prog_3_method_13_code 61 = .ok (.invokestatic 34, 3) := by decide +kernel
theorem d_R_areNearAsBoxes_64 : decode prog_3_method_13_code 64 = .ok (.isub, 1) := by decide +kernel
theorem d_R_areNearAsBoxes_65 : decode prog_3_method_13_code 65 = .ok (.istore 6, 2) := by decide +kernel
theorem d_R_areNearAsBoxes_67 : decode prog_3_method_13_code 67 = .ok (.aload_n 0, 1) := by decide +kernel
theorem d_R_areNearAsBoxes_68 : decode prog_3_method_13_code 68 = .ok (.iload_n 1, 1) := by decide +kernel
theorem d_R_areNearAsBoxes_69 : decode prog_3_method_13_code 69 = .ok (.iload_n 2, 1) := by decide +kernel
theorem d_R_areNearAsBoxes_70 : decode prog_3_method_13_code 70 = .ok (.iload_n 3, 1) := by decide +kernel
theorem d_R_areNearAsBoxes_71 : decode prog_3_method_13_code 71 = .ok (.invokevirtual 53, 3) := by decide +kernel
theorem d_R_areNearAsBoxes_74 : decode prog_3_method_13_code 74 = .ok (.ineg, 1) := by decide +kernel
theorem d_R_areNearAsBoxes_75 : decode prog_3_method_13_code 75 = .ok (.istore 7, 2) := by decide +kernel
theorem d_R_areNearAsBoxes_77 : decode prog_3_method_13_code 77 = .ok (.iconst 2, 1) := by decide +kernel
theorem d_R_areNearAsBoxes_78 : decode prog_3_method_13_code 78 = .ok (.iload 7, 2) := by decide +kernel
theorem d_R_areNearAsBoxes_80 : decode prog_3_method_13_code 80 = .ok (.imul, 1) := by decide +kernel
theorem d_R_areNearAsBoxes_81 : decode prog_3_method_13_code 81 = .ok (.iload 4, 2) := by decide +kernel
theorem d_R_areNearAsBoxes_83 : decode prog_3_method_13_code 83 = .ok (.if_icmp .lt 18, 3) := by decide +kernel
theorem d_R_areNearAsBoxes_86 : decode prog_3_method_13_code 86 = .ok (.iconst 2, 1) := by decide +kernel
theorem d_R_areNearAsBoxes_87 : decode prog_3_method_13_code 87 = .ok (.iload 6, 2) := by decide +kernel
theorem d_R_areNearAsBoxes_89 : decode prog_3_method_13_code 89 = .ok (.imul, 1) := by decide +kernel
theorem d_R_areNearAsBoxes_90 : decode prog_3_method_13_code 90 = .ok (.iconst 3, 1) := by decide +kernel
theorem d_R_areNearAsBoxes_91 : decode prog_3_method_13_code 91 = .ok (.iload 5, 2) := by decide +kernel
theorem d_R_areNearAsBoxes_93 : decode prog_3_method_13_code 93 = .ok (.imul, 1) := by decide +kernel
theorem d_R_areNearAsBoxes_94 : decode prog_3_method_13_code 94 = .ok (.if_icmp .gt 7, 3) := by decide +kernel
theorem d_R_areNearAsBoxes_97 : decode prog_3_method_13_code 97 = .ok (.iconst 1, 1) := by decide +kernel
theorem d_R_areNearAsBoxes_98 : decode prog_3_method_13_code 98 = .ok (.goto 4, 3) := by decide +kernel
theorem d_R_areNearAsBoxes_101 : decode prog_3_method_13_code 101 = .ok (.iconst 0, 1) := by decide +kernel
theorem d_R_areNearAsBoxes_102 : decode prog_3_method_13_code 102 = .ok (.ireturn, 1) := by decide +kernel
theorem d_R_areNearAsLines_0 : decode prog_3_method_14_code 0 = .ok (.aload_n 0, 1) := by decide +kernel
theorem d_R_areNearAsLines_1 : decode prog_3_method_14_code 1 = .ok (.iload_n 1, 1) := by decide +kernel
theorem d_R_areNearAsLines_2 : decode prog_3_method_14_code 2 = .ok (.iload_n 3, 1) := by decide +kernel
theorem d_R_areNearAsLines_3 : decode prog_3_method_14_code 3 = .ok (.invokevirtual 44, 3) := by decide +kernel
theorem d_R_areNearAsLines_6 : decode prog_3_method_14_code 6 = .ok (.aload_n 0, 1) := by decide +kernel
theorem d_R_areNearAsLines_7 : decode prog_3_method_14_code 7 = .ok (.iload_n 2, 1) := by decide +kernel
theorem d_R_areNearAsLines_8 : decode prog_3_method_14_code 8 = .ok (.iload_n 3, 1) := by decide +kernel
theorem d_R_areNearAsLines_9 : decode prog_3_method_14_code 9 = .ok (.invokevirtual 44, 3) := by decide +kernel
theorem d_R_areNearAsLines_12 : decode prog_3_method_14_code 12 = .ok (.invokestatic 34, 3) := by decide +kernel
theorem d_R_areNearAsLines_15 : decode prog_3_method_14_code 15 = .ok (.istore 4, 2) := by decide +kernel
theorem d_R_areNearAsLines_17 : decode prog_3_method_14_code 17 = .ok (.aload_n 0, 1) := by decide +kernel
theorem d_R_areNearAsLines_18 : decode prog_3_method_14_code 18 = .ok (.iload_n 1, 1) := by decide +kernel
theorem d_R_areNearAsLines_19 : decode prog_3_method_14_code 19 = .ok (.iload_n 3, 1) := by decide +kernel
theorem d_R_areNearAsLines_20 : decode prog_3_method_14_code 20 = .ok (.invokevirtual 44, 3) := by decide +kernel
theorem d_R_areNearAsLines_23 : decode prog_3_method_14_code 23 = .ok (.aload_n 0, 1) := by decide +kernel
theorem d_R_areNearAsLines_24 : decode prog_3_method_14_code 24 = .ok (.iload_n 2, 1) := by decide +kernel
theorem d_R_areNearAsLines_25 : decode prog_3_method_14_code 25 = .ok (.iload_n 3, 1) := by decide +kernel
theorem d_R_areNearAsLines_26 : decode prog_3_method_14_code 26 = .ok (.invokevirtual 44, 3) := by decide +kernel
theorem d_R_areNearAsLines_29 : decode prog_3_method_14_code 29 = .ok (.invokestatic 15, 3) := by decide +kernel
theorem d_R_areNearAsLines_32 : decode prog_3_method_14_code 32 = .ok (.istore 5, 2) := by decide +kernel
theorem d_R_areNearAsLines_34 : decode prog_3_method_14_code 34 = .ok (.aload_n 0, 1) := by decide +kernel
theorem d_R_areNearAsLines_35 : decode prog_3_method_14_code 35 = .ok (.iload_n 1, 1) := by decide +kernel
theorem d_R_areNearAsLines_36 : decode prog_3_method_14_code 36 = .ok (.iload_n 3, 1) := by decide +kernel
theorem d_R_areNearAsLines_37 : decode prog_3_method_14_code 37 = .ok (.invokevirtual 47, 3) := by decide +kernel
theorem d_R_areNearAsLines_40 : decode prog_3_method_14_code 40 = .ok (.aload_n 0, 1) := by decide +kernel
theorem d_R_areNearAsLines_41 : decode prog_3_method_14_code 41 = .ok (.iload_n 2, 1) := by decide +kernel
theorem d_R_areNearAsLines_42 : decode prog_3_method_14_code 42 = .ok (.iload_n 3, 1) := by decide +kernel
theorem d_R_areNearAsLines_43 : decode prog_3_method_14_code 43 = .ok (.invokevirtual 47, 3) := by decide +kernel
theorem d_R_areNearAsLines_46 : decode prog_3_method_14_code 46 = .ok (.isub, 1) := by decide +kernel
theorem d_R_areNearAsLines_47 : decode prog_3_method_14_code 47 = .ok (.invokestatic 57, 3) := by decide +kernel
theorem d_R_areNearAsLines_50 : decode prog_3_method_14_code 50 = .ok (.istore 6, 2) := by decide +kernel
theorem d_R_areNearAsLines_52 : decode prog_3_method_14_code 52 = .ok (.iload 6, 2) := by decide +kernel
theorem d_R_areNearAsLines_54 : decode prog_3_method_14_code 54 = .ok (.iload 5, 2) := by decide +kernel
theorem d_R_areNearAsLines_56 : decode prog_3_method_14_code 56 = .ok (.if_icmp .gt 21, 3) := by decide +kernel
theorem d_R_areNearAsLines_59 : decode prog_3_method_14_code 59 = .ok (.aload_n 0, 1) := by decide +kernel
theorem d_R_areNearAsLines_60 : decode prog_3_method_14_code 60 = .ok (.iload_n 1, 1) := by decide +kernel
theorem d_R_areNearAsLines_61 : decode prog_3_method_14_code 61 = .ok (.iload_n 2, 1) := by decide +kernel
theorem d_R_areNearAsLines_62 : decode prog_3_method_14_code 62 = .ok (.iload_n 3, 1) := by decide +kernel
theorem d_R_areNearAsLines_63 : decode prog_3_method_14_code 63 = .ok (.invokevirtual 53, 3) := by decide +kernel
theorem d_R_areNearAsLines_66 : decode prog_3_method_14_code 66 = .ok (.iconst 2, 1) := by decide +kernel
theorem d_R_areNearAsLines_67 : decode prog_3_method_14_code 67 = .ok (.iload 4, 2) := by decide +kernel
theorem d_R_areNearAsLines_69 : decode prog_3_method_14_code 69 = .ok (.imul, 1) := by decide +kernel
theorem d_R_areNearAsLines_70 : decode prog_3_method_14_code 70 = .ok (.if_icmp .gt 7, 3) := by decide +kernel
theorem d_R_areNearAsLines_73 : decode prog_3_method_14_code 73 = .ok (.iconst 1, 1) := by decide +kernel
theorem d_R_areNearAsLines_74 : decode prog_3_method_14_code 74 = .ok (.goto 4, 3) := by decide +kernel
theorem d_R_areNearAsLines_77 : decode prog_3_method_14_code 77 = .ok (.iconst 0, 1) := by decide +kernel
theorem d_R_areNearAsLines_78 : decode prog_3_method_14_code 78 = .ok (.ireturn, 1) := by decide +kernel
theorem d_R_gapDownwards_0 : decode prog_3_method_15_code 0 = .ok (.aload_n 0, 1) := by decide +kernel
theorem d_R_gapDownwards_1 : decode prog_3_method_15_code 1 = .ok (.iload_n 1, 1) := by decide +kernel
theorem d_R_gapDownwards_2 : decode prog_3_method_15_code 2 = .ok (.iload_n 3, 1) := by decide +kernel
theorem d_R_gapDownwards_3 : decode prog_3_method_15_code 3 = .ok (.invokevirtual 41, 3) := by decide +kernel
theorem d_R_gapDownwards_6 : decode prog_3_method_15_code 6 = .ok (.aload_n 0, 1) := by decide +kernel
theorem d_R_gapDownwards_7 : decode prog_3_method_15_code 7 = .ok (.iload_n 2, 1) := by decide +kernel
theorem d_R_gapDownwards_8 : decode prog_3_method_15_code 8 = .ok (.iload_n 3, 1) := by decide +kernel
theorem d_R_gapDownwards_9 : decode prog_3_method_15_code 9 = .ok (.invokevirtual 41, 3) := by decide +kernel
theorem d_R_gapDownwards_12 : decode prog_3_method_15_code 12 = .ok (.invokestatic 15, 3) := by decide +kernel
theorem d_R_gapDownwards_15 : decode prog_3_method_15_code 15 = .ok (.aload_n 0, 1) := by decide +kernel
theorem d_R_gapDownwards_16 : decode prog_3_method_15_code 16 = .ok (.iload_n 1, 1) := by decide +kernel
theorem d_R_gapDownwards_17 : decode prog_3_method_15_code 17 = .ok (.iload_n 3, 1) := by decide +kernel
theorem d_R_gapDownwards_18 : decode prog_3_method_15_code 18 = .ok (.invokevirtual 37, 3) := by decide +kernel
theorem d_R_gapDownwards_21 : decode prog_3_method_15_code 21 = .ok (.aload_n 0, 1) := by decide +kernel
theorem d_R_gapDownwards_22 : decode prog_3_method_15_code 22 = .ok (.iload_n 2, 1) := by decide +kernel
theorem d_R_gapDownwards_23 : decode prog_3_method_15_code 23 = .ok (.iload_n 3, 1) := by decide +kernel
theorem d_R_gapDownwards_24 : decode prog_3_method_15_code 24 = .ok (.invokevirtual 37, 3) := by decide +kernel
theorem d_R_gapDownwards_27 : decode prog_3_method_15_code 27 = .ok (.invokestatic 34, 3) := by decide +kernel
theorem d_R_gapDownwards_30 : decode prog_3_method_15_code 30 = .ok (.isub, 1) := by decide +kernel
theorem d_R_gapDownwards_31 : decode prog_3_method_15_code 31 = .ok (.ireturn, 1) := by decide +kernel
theorem d_S_init_0 : decode prog_4_method_1_code 0 = .ok (.aload_n 0, 1) := by decide +kernel
theorem d_S_init_1 : decode prog_4_method_1_code 1 = .ok (.invokespecial 3, 3) := by decide +kernel
theorem d_S_init_4 : decode prog_4_method_1_code 4 = .ok (.aload_n 0, 1) := by decide +kernel
theorem d_S_init_5 : decode prog_4_method_1_code 5 = .ok (.bipush 64, 2) := by decide +kernel
theorem d_S_init_7 : decode prog_4_method_1_code 7 = .ok (.newarray .int, 2) := by decide +kernel
theorem d_S_init_9 : decode prog_4_method_1_code 9 = .ok (.putfield 9, 3) := by decide +kernel
theorem d_S_init_12 : decode prog_4_method_1_code 12 = .ok (.aload_n 0, 1) := by decide +kernel
theorem d_S_init_13 : decode prog_4_method_1_code 13 = .ok (.iconst 0, 1) := by decide +kernel
theorem d_S_init_14 : decode prog_4_method_1_code 14 = .ok (.putfield 15, 3) := by decide +kernel
theorem d_S_init_17 : decode prog_4_method_1_code 17 = .ok (.aload_n 0, 1) := by decide +kernel
theorem d_S_init_18 : decode prog_4_method_1_code 18 = .ok (.iconst 0, 1) := by decide +kernel
theorem d_S_init_19 : decode prog_4_method_1_code 19 = .ok (.putfield 19, 3) := by decide +kernel
theorem d_S_init_22 : decode prog_4_method_1_code 22 = .ok (.return_, 1) := by decide +kernel
theorem d_S_scatter_0 : decode prog_4_method_2_code 0 = .ok (.aload_n 0, 1) := by decide +kernel
theorem d_S_scatter_1 : decode prog_4_method_2_code 1 = .ok (.iconst 0, 1) := by decide +kernel
theorem d_S_scatter_2 : decode prog_4_method_2_code 2 = .ok (.aload_n 0, 1) := by decide +kernel
theorem d_S_scatter_3 : decode prog_4_method_2_code 3 = .ok (.getfield 9, 3) := by decide +kernel
theorem d_S_scatter_6 : decode prog_4_method_2_code 6 = .ok (.arraylength, 1) := by decide +kernel
theorem d_S_scatter_7 : decode prog_4_method_2_code 7 = .ok (.iload_n 1, 1) := by decide +kernel
theorem d_S_scatter_8 : decode prog_4_method_2_code 8 = .ok (.invokestatic 22, 3) := by decide +kernel
theorem d_S_scatter_11 : decode prog_4_method_2_code 11 = .ok (.invokestatic 28, 3) := by decide +kernel
theorem d_S_scatter_14 : decode prog_4_method_2_code 14 = .ok (.putfield 15, 3) := by decide +kernel
theorem d_S_scatter_17 : decode prog_4_method_2_code 17 = .ok (.aload_n 0, 1) := by decide +kernel
theorem d_S_scatter_18 : decode prog_4_method_2_code 18 = .ok (.aload_n 0, 1) := by decide +kernel
theorem d_S_scatter_19 : decode prog_4_method_2_code 19 = .ok (.getfield 15, 3) := by decide +kernel
theorem d_S_scatter_22 : decode prog_4_method_2_code 22 = .ok (.putfield 19, 3) := by decide +kernel
theorem d_S_scatter_25 : decode prog_4_method_2_code 25 = .ok (.iconst 0, 1) := by decide +kernel
theorem d_S_scatter_26 : decode prog_4_method_2_code 26 = .ok (.istore_n 2, 1) := by decide +kernel
theorem d_S_scatter_27 : decode prog_4_method_2_code 27 = .ok (.iload_n 2, 1) := by decide +kernel
theorem d_S_scatter_28 : decode prog_4_method_2_code 28 = .ok (.aload_n 0, 1) := by decide +kernel
theorem d_S_scatter_29 : decode prog_4_method_2_code 29 = .ok (.getfield 15, 3) := by decide +kernel
theorem d_S_scatter_32 : decode prog_4_method_2_code 32 = .ok (.if_icmp .ge 16, 3) := by decide +kernel
theorem d_S_scatter_35 : decode prog_4_method_2_code 35 = .ok (.aload_n 0, 1) := by decide +kernel
theorem d_S_scatter_36 : decode prog_4_method_2_code 36 = .ok (.getfield 9, 3) := by decide +kernel
theorem d_S_scatter_39 : decode prog_4_method_2_code 39 = .ok (.iload_n 2, 1) := by decide +kernel
theorem d_S_scatter_40 : decode prog_4_method_2_code 40 = .ok (.iload_n 2, 1) := by decide +kernel
theorem d_S_scatter_41 : decode prog_4_method_2_code 41 = .ok (.iastore, 1) := by decide +kernel
theorem d_S_scatter_42 : decode prog_4_method_2_code 42 = .ok (.iinc 2 1, 3) := by decide +kernel
theorem d_S_scatter_45 : decode prog_4_method_2_code 45 = .ok (.goto (-18), 3) := by decide +kernel
theorem d_S_scatter_48 : decode prog_4_method_2_code 48 = .ok (.return_, 1) := by decide +kernel
theorem d_S_join_0 : decode prog_4_method_3_code 0 = .ok (.aload_n 0, 1) := by decide +kernel
theorem d_S_join_1 : decode prog_4_method_3_code 1 = .ok (.getfield 9, 3) := by decide +kernel
theorem d_S_join_4 : decode prog_4_method_3_code 4 = .ok (.iload_n 1, 1) := by decide +kernel
theorem d_S_join_5 : decode prog_4_method_3_code 5 = .ok (.iaload, 1) := by decide +kernel
theorem d_S_join_6 : decode prog_4_method_3_code 6 = .ok (.aload_n 0, 1) := by decide +kernel
theorem d_S_join_7 : decode prog_4_method_3_code 7 = .ok (.getfield 9, 3) := by decide +kernel
theorem d_S_join_10 : decode prog_4_method_3_code 10 = .ok (.iload_n 2, 1) := by decide +kernel
theorem d_S_join_11 : decode prog_4_method_3_code 11 = .ok (.iaload, 1) := by decide +kernel
theorem d_S_join_12 : decode prog_4_method_3_code 12 = .ok (.invokestatic 22, 3) := by decide +kernel
theorem d_S_join_15 : decode prog_4_method_3_code 15 = .ok (.istore_n 3, 1) := by decide +kernel
theorem d_S_join_16 : decode prog_4_method_3_code 16 = .ok (.aload_n 0, 1) := by decide +kernel
theorem d_S_join_17 : decode prog_4_method_3_code 17 = .ok (.getfield 9, 3) := by decide +kernel
theorem d_S_join_20 : decode prog_4_method_3_code 20 = .ok (.iload_n 1, 1) := by decide +kernel
theorem d_S_join_21 : decode prog_4_method_3_code 21 = .ok (.iaload, 1) := by decide +kernel
theorem d_S_join_22 : decode prog_4_method_3_code 22 = .ok (.aload_n 0, 1) := by decide +kernel
theorem d_S_join_23 : decode prog_4_method_3_code 23 = .ok (.getfield 9, 3) := by decide +kernel
theorem d_S_join_26 : decode prog_4_method_3_code 26 = .ok (.iload_n 2, 1) := by decide +kernel
theorem d_S_join_27 : decode prog_4_method_3_code 27 = .ok (.iaload, 1) := by decide +kernel
theorem d_S_join_28 : decode prog_4_method_3_code 28 = .ok (.invokestatic 28, 3) := by decide +kernel
theorem d_S_join_31 : decode prog_4_method_3_code 31 = .ok (.istore 4, 2) := by decide +kernel
theorem d_S_join_33 : decode prog_4_method_3_code 33 = .ok (.iload_n 3, 1) := by decide +kernel
theorem d_S_join_34 : decode prog_4_method_3_code 34 = .ok (.iload 4, 2) := by decide +kernel
theorem d_S_join_36 : decode prog_4_method_3_code 36 = .ok (.if_icmp .ne 4, 3) := by decide +kernel
theorem d_S_join_39 : decode prog_4_method_3_code 39 = .ok (.return_, 1) := by decide +kernel
theorem d_S_join_40 : decode prog_4_method_3_code 40 = .ok (.iconst 0, 1) := by decide +kernel
theorem d_S_join_41 : decode prog_4_method_3_code 41 = .ok (.istore 5, 2) := by decide +kernel
theorem d_S_join_43 : decode prog_4_method_3_code 43 = .ok (.iload 5, 2) := by decide +kernel
theorem d_S_join_45 : decode prog_4_method_3_code 45 = .ok (.aload_n 0, 1) := by decide +kernel
theorem d_S_join_46 : decode prog_4_method_3_code 46 = .ok (.getfield 15, 3) := by decide +kernel
theorem d_S_join_49 : decode prog_4_method_3_code 49 = .ok (.if_icmp .ge 29, 3) := by decide +kernel
theorem d_S_join_52 : decode prog_4_method_3_code 52 = .ok (.aload_n 0, 1) := by decide +kernel
theorem d_S_join_53 : decode prog_4_method_3_code 53 = .ok (.getfield 9, 3) := by decide +kernel
theorem d_S_join_56 : decode prog_4_method_3_code 56 = .ok (.iload 5, 2) := by decide +kernel
theorem d_S_join_58 : decode prog_4_method_3_code 58 = .ok (.iaload, 1) := by decide +kernel
theorem d_S_join_59 : decode prog_4_method_3_code 59 = .ok (.iload 4, 2) := by decide +kernel
theorem d_S_join_61 : decode prog_4_method_3_code 61 = .ok (.if_icmp .ne 11, 3) := by decide +kernel
theorem d_S_join_64 : decode prog_4_method_3_code 64 = .ok (.aload_n 0, 1) := by decide +kernel
theorem d_S_join_65 : decode prog_4_method_3_code 65 = .ok (.getfield 9, 3) := by decide +kernel
theorem d_S_join_68 : decode prog_4_method_3_code 68 = .ok (.iload 5, 2) := by decide +kernel
theorem d_S_join_70 : decode prog_4_method_3_code 70 = .ok (.iload_n 3, 1) := by decide +kernel
theorem d_S_join_71 : decode prog_4_method_3_code 71 = .ok (.iastore, 1) := by decide +kernel
theorem d_S_join_72 : decode prog_4_method_3_code 72 = .ok (.iinc 5 1, 3) := by decide +kernel
theorem d_S_join_75 : decode prog_4_method_3_code 75 = .ok (.goto (-32), 3) := by decide +kernel
theorem d_S_join_78 : decode prog_4_method_3_code 78 = .ok (.aload_n 0, 1) := by decide +kernel
theorem d_S_join_79 : decode prog_4_method_3_code 79 = .ok (.dup, 1) := by decide +kernel
theorem d_S_join_80 : decode prog_4_method_3_code 80 = .ok (.getfield 19, 3) := by decide +kernel
theorem d_S_join_83 : decode prog_4_method_3_code 83 = .ok (.iconst 1, 1) := by decide +kernel
theorem d_S_join_84 : decode prog_4_method_3_code 84 = .ok (.isub, 1) := by decide +kernel
theorem d_S_join_85 : decode prog_4_method_3_code 85 = .ok (.putfield 19, 3) := by decide +kernel
theorem d_S_join_88 : decode prog_4_method_3_code 88 = .ok (.return_, 1) := by decide +kernel
theorem d_G_init_0 : decode prog_2_method_1_code 0 = .ok (.aload_n 0, 1) := by decide +kernel
theorem d_G_init_1 : decode prog_2_method_1_code 1 = .ok (.invokespecial 3, 3) := by decide +kernel
theorem d_G_init_4 : decode prog_2_method_1_code 4 = .ok (.aload_n 0, 1) := by decide +kernel
theorem d_G_init_5 : decode prog_2_method_1_code 5 = .ok (.new 9, 3) := by decide +kernel
theorem d_G_init_8 : decode prog_2_method_1_code 8 = .ok (.dup, 1) := by decide +kernel
theorem d_G_init_9 : decode prog_2_method_1_code 9 = .ok (.bipush 64, 2) := by decide +kernel
theorem d_G_init_11 : decode prog_2_method_1_code 11 = .ok (.invokespecial 11, 3) := by decide +kernel
theorem d_G_init_14 : decode prog_2_method_1_code 14 = .ok (.putfield 14, 3) := by decide +kernel
theorem d_G_init_17 : decode prog_2_method_1_code 17 = .ok (.aload_n 0, 1) := by decide +kernel
theorem d_G_init_18 : decode prog_2_method_1_code 18 = .ok (.bipush 64, 2) := by decide +kernel
theorem d_G_init_20 : decode prog_2_method_1_code 20 = .ok (.newarray .int, 2) := by decide +kernel
theorem d_G_init_22 : decode prog_2_method_1_code 22 = .ok (.putfield 20, 3) := by decide +kernel
theorem d_G_init_25 : decode prog_2_method_1_code 25 = .ok (.aload_n 0, 1) := by decide +kernel
theorem d_G_init_26 : decode prog_2_method_1_code 26 = .ok (.bipush 64, 2) := by decide +kernel
theorem d_G_init_28 : decode prog_2_method_1_code 28 = .ok (.newarray .int, 2) := by decide +kernel
theorem d_G_init_30 : decode prog_2_method_1_code 30 = .ok (.putfield 24, 3) := by decide +kernel
theorem d_G_init_33 : decode prog_2_method_1_code 33 = .ok (.aload_n 0, 1) := by decide +kernel
theorem d_G_init_34 : decode prog_2_method_1_code 34 = .ok (.bipush 64, 2) := by decide +kernel
theorem d_G_init_36 : decode prog_2_method_1_code 36 = .ok (.newarray .int, 2) := by decide +kernel
theorem d_G_init_38 : decode prog_2_method_1_code 38 = .ok (.putfield 27, 3) := by decide +kernel
theorem d_G_init_41 : decode prog_2_method_1_code 41 = .ok (.aload_n 0, 1) := by decide +kernel
theorem d_G_init_42 : decode prog_2_method_1_code 42 = .ok (.bipush 64, 2) := by decide +kernel
theorem d_G_init_44 : decode prog_2_method_1_code 44 = .ok (.newarray .int, 2) := by decide +kernel
theorem d_G_init_46 : decode prog_2_method_1_code 46 = .ok (.putfield 30, 3) := by decide +kernel
theorem d_G_init_49 : decode prog_2_method_1_code 49 = .ok (.aload_n 0, 1) := by decide +kernel
theorem d_G_init_50 : decode prog_2_method_1_code 50 = .ok (.bipush 64, 2) := by decide +kernel
theorem d_G_init_52 : decode prog_2_method_1_code 52 = .ok (.newarray .int, 2) := by decide +kernel
theorem d_G_init_54 : decode prog_2_method_1_code 54 = .ok (.putfield 33, 3) := by decide +kernel
theorem d_G_init_57 : decode prog_2_method_1_code 57 = .ok (.aload_n 0, 1) := by decide +kernel
theorem d_G_init_58 : decode prog_2_method_1_code 58 = .ok (.bipush 64, 2) := by decide +kernel
theorem d_G_init_60 : decode prog_2_method_1_code 60 = .ok (.newarray .int, 2) := by decide +kernel
theorem d_G_init_62 : decode prog_2_method_1_code 62 = .ok (.putfield 36, 3) := by decide +kernel
theorem d_G_init_65 : decode prog_2_method_1_code 65 = .ok (.return_, 1) := by decide +kernel
theorem d_G_size_0 : decode prog_2_method_2_code 0 = .ok (.aload_n 0, 1) := by decide +kernel
theorem d_G_size_1 : decode prog_2_method_2_code 1 = .ok (.getfield 14, 3) := by decide +kernel
theorem d_G_size_4 : decode prog_2_method_2_code 4 = .ok (.getfield 39, 3) := by decide +kernel
theorem d_G_size_7 : decode prog_2_method_2_code 7 = .ok (.ireturn, 1) := by decide +kernel
theorem d_G_has_0 : decode prog_2_method_3_code 0 = .ok (.aload_n 0, 1) := by decide +kernel
theorem d_G_has_1 : decode prog_2_method_3_code 1 = .ok (.getfield 14, 3) := by decide +kernel
theorem d_G_has_4 : decode prog_2_method_3_code 4 = .ok (.iload_n 1, 1) := by decide +kernel
theorem d_G_has_5 : decode prog_2_method_3_code 5 = .ok (.invokevirtual 43, 3) := by decide +kernel
theorem d_G_has_8 : decode prog_2_method_3_code 8 = .ok (.ireturn, 1) := by decide +kernel
theorem d_G_gather_0 : decode prog_2_method_4_code 0 = .ok (.aload_n 0, 1) := by decide +kernel
theorem d_G_gather_1 : decode prog_2_method_4_code 1 = .ok (.getfield 14, 3) := by decide +kernel
theorem d_G_gather_4 : decode prog_2_method_4_code 4 = .ok (.iconst 0, 1) := by decide +kernel
theorem d_G_gather_5 : decode prog_2_method_4_code 5 = .ok (.putfield 39, 3) := by decide +kernel
theorem d_G_gather_8 : decode prog_2_method_4_code 8 = .ok (.iconst 0, 1) := by decide +kernel
theorem d_G_gather_9 : decode prog_2_method_4_code 9 = .ok (.istore_n 3, 1) := by decide +kernel
theorem d_G_gather_10 : decode prog_2_method_4_code 10 = .ok (.iload_n 3, 1) := by decide +kernel
theorem d_G_gather_11 : decode prog_2_method_4_code 11 = .ok (.aload_n 1, 1) := by decide +kernel
theorem d_G_gather_12 : decode prog_2_method_4_code 12 = .ok (.getfield 39, 3) := by decide +kernel
theorem d_G_gather_15 : decode prog_2_method_4_code 15 = .ok (.if_icmp .ge 45, 3) := by decide +kernel
theorem d_G_gather_18 : decode prog_2_method_4_code 18 = .ok (.aload_n 2, 1) := by decide +kernel
theorem d_G_gather_19 : decode prog_2_method_4_code 19 = .ok (.getfield 47, 3) := by decide +kernel
theorem d_G_gather_22 : decode prog_2_method_4_code 22 = .ok (.iload_n 3, 1) := by decide +kernel
theorem d_G_gather_23 : decode prog_2_method_4_code 23 = .ok (.iaload, 1) := by decide +kernel
theorem d_G_gather_24 : decode prog_2_method_4_code 24 = .ok (.iload_n 3, 1) := by decide +kernel
theorem d_G_gather_25 : decode prog_2_method_4_code 25 = .ok (.if_icmp .ne 12, 3) := by decide +kernel
theorem d_G_gather_28 : decode prog_2_method_4_code 28 = .ok (.aload_n 0, 1) := by decide +kernel
theorem d_G_gather_29 : decode prog_2_method_4_code 29 = .ok (.aload_n 1, 1) := by decide +kernel
theorem d_G_gather_30 : decode prog_2_method_4_code 30 = .ok (.iload_n 3, 1) := by decide +kernel
theorem d_G_gather_31 : decode prog_2_method_4_code 31 = .ok (.invokevirtual 52, 3) := by decide +kernel
theorem d_G_gather_34 : decode prog_2_method_4_code 34 = .ok (.goto 20, 3) := by decide +kernel
theorem d_G_gather_37 : decode prog_2_method_4_code 37 = .ok (.aload_n 0, 1) := by decide +kernel
theorem d_G_gather_38 : decode prog_2_method_4_code 38 = .ok (.aload_n 0, 1) := by decide +kernel
theorem d_G_gather_39 : decode prog_2_method_4_code 39 = .ok (.getfield 30, 3) := by decide +kernel
theorem d_G_gather_42 : decode prog_2_method_4_code 42 = .ok (.aload_n 2, 1) := by decide +kernel
theorem d_G_gather_43 : decode prog_2_method_4_code 43 = .ok (.getfield 47, 3) := by decide +kernel
theorem d_G_gather_46 : decode prog_2_method_4_code 46 = .ok (.iload_n 3, 1) := by decide +kernel
theorem d_G_gather_47 : decode prog_2_method_4_code 47 = .ok (.iaload, 1) := by decide +kernel
theorem d_G_gather_48 : decode prog_2_method_4_code 48 = .ok (.iaload, 1) := by decide +kernel
theorem d_G_gather_49 : decode prog_2_method_4_code 49 = .ok (.aload_n 1, 1) := by decide +kernel
theorem d_G_gather_50 : decode prog_2_method_4_code 50 = .ok (.iload_n 3, 1) := by decide +kernel
theorem d_G_gather_51 : decode prog_2_method_4_code 51 = .ok (.invokevirtual 56, 3) := by decide +kernel
theorem d_G_gather_54 : decode prog_2_method_4_code 54 = .ok (.iinc 3 1, 3) := by decide +kernel
theorem d_G_gather_57 : decode prog_2_method_4_code 57 = .ok (.goto (-47), 3) := by decide +kernel
theorem d_G_gather_60 : decode prog_2_method_4_code 60 = .ok (.return_, 1) := by decide +kernel
theorem d_G_begin_0 : decode prog_2_method_5_code 0 = .ok (.aload_n 0, 1) := by decide +kernel
theorem d_G_begin_1 : decode prog_2_method_5_code 1 = .ok (.getfield 14, 3) := by decide +kernel
theorem d_G_begin_4 : decode prog_2_method_5_code 4 = .ok (.aload_n 1, 1) := by decide +kernel
theorem d_G_begin_5 : decode prog_2_method_5_code 5 = .ok (.getfield 60, 3) := by decide +kernel
theorem d_G_begin_8 : decode prog_2_method_5_code 8 = .ok (.iload_n 2, 1) := by decide +kernel
theorem d_G_begin_9 : decode prog_2_method_5_code 9 = .ok (.iaload, 1) := by decide +kernel
theorem d_G_begin_10 : decode prog_2_method_5_code 10 = .ok (.aload_n 1, 1) := by decide +kernel
theorem d_G_begin_11 : decode prog_2_method_5_code 11 = .ok (.getfield 63, 3) := by decide +kernel
theorem d_G_begin_14 : decode prog_2_method_5_code 14 = .ok (.iload_n 2, 1) := by decide +kernel
theorem d_G_begin_15 : decode prog_2_method_5_code 15 = .ok (.iaload, 1) := by decide +kernel
theorem d_G_begin_16 : decode prog_2_method_5_code 16 = .ok (.aload_n 1, 1) := by decide +kernel
theorem d_G_begin_17 : decode prog_2_method_5_code 17 = .ok (.getfield 66, 3) := by decide +kernel
theorem d_G_begin_20 : decode prog_2_method_5_code 20 = .ok (.iload_n 2, 1) := by decide +kernel
theorem d_G_begin_21 : decode prog_2_method_5_code 21 = .ok (.iaload, 1) := by decide +kernel
theorem d_G_begin_22 : decode prog_2_method_5_code 22 = .ok (.aload_n 1, 1) := by decide +kernel
theorem d_G_begin_23 : decode prog_2_method_5_code 23 = .ok (.getfield 69, 3) := by decide +kernel
theorem d_G_begin_26 : decode prog_2_method_5_code 26 = .ok (.iload_n 2, 1) := by decide +kernel
theorem d_G_begin_27 : decode prog_2_method_5_code 27 = .ok (.iaload, 1) := by decide +kernel
theorem d_G_begin_28 : decode prog_2_method_5_code 28 = .ok (.invokevirtual 72, 3) := by decide +kernel
theorem d_G_begin_31 : decode prog_2_method_5_code 31 = .ok (.istore_n 3, 1) := by decide +kernel
theorem d_G_begin_32 : decode prog_2_method_5_code 32 = .ok (.iload_n 3, 1) := by decide +kernel
theorem d_G_begin_33 : decode prog_2_method_5_code 33 = .ok (.ifCond .lt 24, 3) := by decide +kernel
theorem d_G_begin_36 : decode prog_2_method_5_code 36 = .ok (.aload_n 0, 1) := by decide +kernel
theorem d_G_begin_37 : decode prog_2_method_5_code 37 = .ok (.getfield 20, 3) := by decide +kernel
theorem d_G_begin_40 : decode prog_2_method_5_code 40 = .ok (.iload_n 3, 1) := by decide +kernel
theorem d_G_begin_41 : decode prog_2_method_5_code 41 = .ok (.iconst 1, 1) := by decide +kernel
theorem d_G_begin_42 : decode prog_2_method_5_code 42 = .ok (.iastore, 1) := by decide +kernel
theorem d_G_begin_43 : decode prog_2_method_5_code 43 = .ok (.aload_n 0, 1) := by decide +kernel
theorem d_G_begin_44 : decode prog_2_method_5_code 44 = .ok (.getfield 24, 3) := by decide +kernel
theorem d_G_begin_47 : decode prog_2_method_5_code 47 = .ok (.iload_n 3, 1) := by decide +kernel
theorem d_G_begin_48 : decode prog_2_method_5_code 48 = .ok (.iload_n 2, 1) := by decide +kernel
theorem d_G_begin_49 : decode prog_2_method_5_code 49 = .ok (.iastore, 1) := by decide +kernel
theorem d_G_begin_50 : decode prog_2_method_5_code 50 = .ok (.aload_n 0, 1) := by decide +kernel
theorem d_G_begin_51 : decode prog_2_method_5_code 51 = .ok (.getfield 30, 3) := by decide +kernel
theorem d_G_begin_54 : decode prog_2_method_5_code 54 = .ok (.iload_n 2, 1) := by decide +kernel
theorem d_G_begin_55 : decode prog_2_method_5_code 55 = .ok (.iload_n 3, 1) := by decide +kernel
theorem d_G_begin_56 : decode prog_2_method_5_code 56 = .ok (.iastore, 1) := by decide +kernel
theorem d_G_begin_57 : decode prog_2_method_5_code 57 = .ok (.return_, 1) := by decide +kernel
theorem d_G_extend_0 : decode prog_2_method_6_code 0 = .ok (.aload_n 0, 1) := by decide +kernel
theorem d_G_extend_1 : decode prog_2_method_6_code 1 = .ok (.getfield 14, 3) := by decide +kernel
theorem d_G_extend_4 : decode prog_2_method_6_code 4 = .ok (.iload_n 1, 1) := by decide +kernel
theorem d_G_extend_5 : decode prog_2_method_6_code 5 = .ok (.aload_n 2, 1) := by decide +kernel
theorem d_G_extend_6 : decode prog_2_method_6_code 6 = .ok (.iload_n 3, 1) := by decide +kernel
theorem d_G_extend_7 : decode prog_2_method_6_code 7 = .ok (.invokevirtual 76, 3) := by decide +kernel
theorem d_G_extend_10 : decode prog_2_method_6_code 10 = .ok (.aload_n 0, 1) := by decide +kernel
theorem d_G_extend_11 : decode prog_2_method_6_code 11 = .ok (.getfield 20, 3) := by decide +kernel
theorem d_G_extend_14 : decode prog_2_method_6_code 14 = .ok (.iload_n 1, 1) := by decide +kernel
theorem d_G_extend_15 : decode prog_2_method_6_code 15 = .ok (.dup2, 1) := by decide +kernel
theorem d_G_extend_16 : decode prog_2_method_6_code 16 = .ok (.iaload, 1) := by decide +kernel
theorem d_G_extend_17 : decode prog_2_method_6_code 17 = .ok (.iconst 1, 1) := by decide +kernel
theorem d_G_extend_18 : decode prog_2_method_6_code 18 = .ok (.iadd, 1) := by decide +kernel
theorem d_G_extend_19 : decode prog_2_method_6_code 19 = .ok (.iastore, 1) := by decide +kernel
theorem d_G_extend_20 : decode prog_2_method_6_code 20 = .ok (.aload_n 0, 1) := by decide +kernel
theorem d_G_extend_21 : decode prog_2_method_6_code 21 = .ok (.getfield 30, 3) := by decide +kernel
theorem d_G_extend_24 : decode prog_2_method_6_code 24 = .ok (.iload_n 3, 1) := by decide +kernel
theorem d_G_extend_25 : decode prog_2_method_6_code 25 = .ok (.iload_n 1, 1) := by decide +kernel
theorem d_G_extend_26 : decode prog_2_method_6_code 26 = .ok (.iastore, 1) := by decide +kernel
theorem d_G_extend_27 : decode prog_2_method_6_code 27 = .ok (.return_, 1) := by decide +kernel
theorem d_G_putInOrder_0 : decode prog_2_method_7_code 0 = .ok (.iconst 0, 1) := by decide +kernel
theorem d_G_putInOrder_1 : decode prog_2_method_7_code 1 = .ok (.istore_n 2, 1) := by decide +kernel
theorem d_G_putInOrder_2 : decode prog_2_method_7_code 2 = .ok (.iload_n 2, 1) := by decide +kernel
theorem d_G_putInOrder_3 : decode prog_2_method_7_code 3 = .ok (.aload_n 0, 1) := by decide +kernel
theorem d_G_putInOrder_4 : decode prog_2_method_7_code 4 = .ok (.invokevirtual 79, 3) := by decide +kernel
theorem d_G_putInOrder_7 : decode prog_2_method_7_code 7 = .ok (.if_icmp .ge 59, 3) := by decide +kernel
theorem d_G_putInOrder_10 : decode prog_2_method_7_code 10 = .ok (.iload_n 2, 1) := by decide +kernel
theorem d_G_putInOrder_11 : decode prog_2_method_7_code 11 = .ok (.istore_n 3, 1) := by decide +kernel
theorem d_G_putInOrder_12 : decode prog_2_method_7_code 12 = .ok (.iload_n 3, 1) := by decide +kernel
theorem d_G_putInOrder_13 : decode prog_2_method_7_code 13 = .ok (.ifCond .le 40, 3) := by decide +kernel
theorem d_G_putInOrder_16 : decode prog_2_method_7_code 16 = .ok (.aload_n 0, 1) := by decide +kernel
theorem d_G_putInOrder_17 : decode prog_2_method_7_code 17 = .ok (.iload_n 2, 1) := by decide +kernel
theorem d_G_putInOrder_18 : decode prog_2_method_7_code 18 = .ok (.aload_n 0, 1) := by decide +kernel
theorem d_G_putInOrder_19 : decode prog_2_method_7_code 19 = .ok (.getfield 33, 3) := by decide +kernel
theorem d_G_putInOrder_22 : decode prog_2_method_7_code 22 = .ok (.iload_n 3, 1) := by decide +kernel
theorem d_G_putInOrder_23 : decode prog_2_method_7_code 23 = .ok (.iconst 1, 1) := by decide +kernel
theorem d_G_putInOrder_24 : decode prog_2_method_7_code 24 = .ok (.isub, 1) := by decide +kernel
theorem d_G_putInOrder_25 : decode prog_2_method_7_code 25 = .ok (.iaload, 1) := by decide +kernel
theorem d_G_putInOrder_26 : decode prog_2_method_7_code 26 = .ok (.iload_n 1, 1) := by decide +kernel
theorem d_G_putInOrder_27 : decode prog_2_method_7_code 27 = .ok (.invokevirtual 83, 3) := by decide +kernel
theorem d_G_putInOrder_30 : decode prog_2_method_7_code 30 = .ok (.ifCond .eq 23, 3) := by decide +kernel
theorem d_G_putInOrder_33 : decode prog_2_method_7_code 33 = .ok (.aload_n 0, 1) := by decide +kernel
theorem d_G_putInOrder_34 : decode prog_2_method_7_code 34 = .ok (.getfield 33, 3) := by decide +kernel
theorem d_G_putInOrder_37 : decode prog_2_method_7_code 37 = .ok (.iload_n 3, 1) := by decide +kernel
theorem d_G_putInOrder_38 : decode prog_2_method_7_code 38 = .ok (.aload_n 0, 1) := by decide +kernel
theorem d_G_putInOrder_39 : decode prog_2_method_7_code 39 = .ok (.getfield 33, 3) := by decide +kernel
theorem d_G_putInOrder_42 : decode prog_2_method_7_code 42 = .ok (.iload_n 3, 1) := by decide +kernel
theorem d_G_putInOrder_43 : decode prog_2_method_7_code 43 = .ok (.iconst 1, 1) := by decide +kernel
theorem d_G_putInOrder_44 : decode prog_2_method_7_code 44 = .ok (.isub, 1) := by decide +kernel
theorem d_G_putInOrder_45 : decode prog_2_method_7_code 45 = .ok (.iaload, 1) := by decide +kernel
theorem d_G_putInOrder_46 : decode prog_2_method_7_code 46 = .ok (.iastore, 1) := by decide +kernel
theorem d_G_putInOrder_47 : decode prog_2_method_7_code 47 = .ok (.iinc 3 (-1), 3) := by decide +kernel
theorem d_G_putInOrder_50 : decode prog_2_method_7_code 50 = .ok (.goto (-38), 3) := by decide +kernel
theorem d_G_putInOrder_53 : decode prog_2_method_7_code 53 = .ok (.aload_n 0, 1) := by decide +kernel
theorem d_G_putInOrder_54 : decode prog_2_method_7_code 54 = .ok (.getfield 33, 3) := by decide +kernel
theorem d_G_putInOrder_57 : decode prog_2_method_7_code 57 = .ok (.iload_n 3, 1) := by decide +kernel
theorem d_G_putInOrder_58 : decode prog_2_method_7_code 58 = .ok (.iload_n 2, 1) := by decide +kernel
theorem d_G_putInOrder_59 : decode prog_2_method_7_code 59 = .ok (.iastore, 1) := by decide +kernel
theorem d_G_putInOrder_60 : decode prog_2_method_7_code 60 = .ok (.iinc 2 1, 3) := by decide +kernel
theorem d_G_putInOrder_63 : decode prog_2_method_7_code 63 = .ok (.goto (-61), 3) := by decide +kernel
theorem d_G_putInOrder_66 : decode prog_2_method_7_code 66 = .ok (.iconst 0, 1) := by decide +kernel
theorem d_G_putInOrder_67 : decode prog_2_method_7_code 67 = .ok (.istore_n 2, 1) := by decide +kernel
theorem d_G_putInOrder_68 : decode prog_2_method_7_code 68 = .ok (.iload_n 2, 1) := by decide +kernel
theorem d_G_putInOrder_69 : decode prog_2_method_7_code 69 = .ok (.aload_n 0, 1) := by decide +kernel
theorem d_G_putInOrder_70 : decode prog_2_method_7_code 70 = .ok (.invokevirtual 79, 3) := by decide +kernel
theorem d_G_putInOrder_73 : decode prog_2_method_7_code 73 = .ok (.if_icmp .ge 21, 3) := by decide +kernel
theorem d_G_putInOrder_76 : decode prog_2_method_7_code 76 = .ok (.aload_n 0, 1) := by decide +kernel
theorem d_G_putInOrder_77 : decode prog_2_method_7_code 77 = .ok (.getfield 36, 3) := by decide +kernel
theorem d_G_putInOrder_80 : decode prog_2_method_7_code 80 = .ok (.aload_n 0, 1) := by decide +kernel
theorem d_G_putInOrder_81 : decode prog_2_method_7_code 81 = .ok (.getfield 33, 3) := by decide +kernel
theorem d_G_putInOrder_84 : decode prog_2_method_7_code 84 = .ok (.iload_n 2, 1) := by decide +kernel
theorem d_G_putInOrder_85 : decode prog_2_method_7_code 85 = .ok (.iaload, 1) := by decide +kernel
theorem d_G_putInOrder_86 : decode prog_2_method_7_code 86 = .ok (.iload_n 2, 1) := by decide +kernel
theorem d_G_putInOrder_87 : decode prog_2_method_7_code 87 = .ok (.iastore, 1) := by decide +kernel
theorem d_G_putInOrder_88 : decode prog_2_method_7_code 88 = .ok (.iinc 2 1, 3) := by decide +kernel
theorem d_G_putInOrder_91 : decode prog_2_method_7_code 91 = .ok (.goto (-23), 3) := by decide +kernel
theorem d_G_putInOrder_94 : decode prog_2_method_7_code 94 = .ok (.return_, 1) := by decide +kernel
theorem d_G_comesBefore_0 : decode prog_2_method_8_code 0 = .ok (.aload_n 0, 1) := by decide +kernel
theorem d_G_comesBefore_1 : decode prog_2_method_8_code 1 = .ok (.getfield 27, 3) := by decide +kernel
theorem d_G_comesBefore_4 : decode prog_2_method_8_code 4 = .ok (.iload_n 1, 1) := by decide +kernel
theorem d_G_comesBefore_5 : decode prog_2_method_8_code 5 = .ok (.iaload, 1) := by decide +kernel
theorem d_G_comesBefore_6 : decode prog_2_method_8_code 6 = .ok (.aload_n 0, 1) := by decide +kernel
theorem d_G_comesBefore_7 : decode prog_2_method_8_code 7 = .ok (.getfield 27, 3) := by decide +kernel
theorem d_G_comesBefore_10 : decode prog_2_method_8_code 10 = .ok (.iload_n 2, 1) := by decide +kernel
theorem d_G_comesBefore_11 : decode prog_2_method_8_code 11 = .ok (.iaload, 1) := by decide +kernel
theorem d_G_comesBefore_12 : decode prog_2_method_8_code 12 = .ok (.if_icmp .eq 24, 3) := by decide +kernel
theorem d_G_comesBefore_15 : decode prog_2_method_8_code 15 = .ok (.aload_n 0, 1) := by decide +kernel
theorem d_G_comesBefore_16 : decode prog_2_method_8_code 16 = .ok (.getfield 27, 3) := by decide +kernel
theorem d_G_comesBefore_19 : decode prog_2_method_8_code 19 = .ok (.iload_n 1, 1) := by decide +kernel
theorem d_G_comesBefore_20 : decode prog_2_method_8_code 20 = .ok (.iaload, 1) := by decide +kernel
theorem d_G_comesBefore_21 : decode prog_2_method_8_code 21 = .ok (.aload_n 0, 1) := by decide +kernel
theorem d_G_comesBefore_22 : decode prog_2_method_8_code 22 = .ok (.getfield 27, 3) := by decide +kernel
theorem d_G_comesBefore_25 : decode prog_2_method_8_code 25 = .ok (.iload_n 2, 1) := by decide +kernel
theorem d_G_comesBefore_26 : decode prog_2_method_8_code 26 = .ok (.iaload, 1) := by decide +kernel
theorem d_G_comesBefore_27 : decode prog_2_method_8_code 27 = .ok (.if_icmp .le 7, 3) := by decide +kernel
theorem d_G_comesBefore_30 : decode prog_2_method_8_code 30 = .ok (.iconst 1, 1) := by decide +kernel
theorem d_G_comesBefore_31 : decode prog_2_method_8_code 31 = .ok (.goto 4, 3) := by decide +kernel
theorem d_G_comesBefore_34 : decode prog_2_method_8_code 34 = .ok (.iconst 0, 1) := by decide +kernel
theorem d_G_comesBefore_35 : decode prog_2_method_8_code 35 = .ok (.ireturn, 1) := by decide +kernel
theorem d_G_comesBefore_36 : decode prog_2_method_8_code 36 = .ok (.aload_n 0, 1) := by decide +kernel
theorem d_G_comesBefore_37 : decode prog_2_method_8_code 37 = .ok (.getfield 14, 3) := by decide +kernel
theorem d_G_comesBefore_40 : decode prog_2_method_8_code 40 = .ok (.iload_n 1, 1) := by decide +kernel
theorem d_G_comesBefore_41 : decode prog_2_method_8_code 41 = .ok (.iload_n 3, 1) := by decide +kernel
theorem d_G_comesBefore_42 : decode prog_2_method_8_code 42 = .ok (.invokevirtual 87, 3) := by decide +kernel
theorem d_G_comesBefore_45 : decode prog_2_method_8_code 45 = .ok (.aload_n 0, 1) := by decide +kernel
theorem d_G_comesBefore_46 : decode prog_2_method_8_code 46 = .ok (.getfield 14, 3) := by decide +kernel
theorem d_G_comesBefore_49 : decode prog_2_method_8_code 49 = .ok (.iload_n 2, 1) := by decide +kernel
theorem d_G_comesBefore_50 : decode prog_2_method_8_code 50 = .ok (.iload_n 3, 1) := by decide +kernel
theorem d_G_comesBefore_51 : decode prog_2_method_8_code 51 = .ok (.invokevirtual 87, 3) := by decide +kernel
theorem d_G_comesBefore_54 : decode prog_2_method_8_code 54 = .ok (.isub, 1) := by decide +kernel
theorem d_G_comesBefore_55 : decode prog_2_method_8_code 55 = .ok (.istore 4, 2) := by decide +kernel
theorem d_G_comesBefore_57 : decode prog_2_method_8_code 57 = .ok (.iload 4, 2) := by decide +kernel
theorem d_G_comesBefore_59 : decode prog_2_method_8_code 59 = .ok (.ifCond .eq 14, 3) := by decide +kernel
theorem d_G_comesBefore_62 : decode prog_2_method_8_code 62 = .ok (.iload 4, 2) := by decide +kernel
theorem d_G_comesBefore_64 : decode prog_2_method_8_code 64 = .ok (.ifCond .ge 7, 3) := by decide +kernel
theorem d_G_comesBefore_67 : decode prog_2_method_8_code 67 = .ok (.iconst 1, 1) := by decide +kernel
theorem d_G_comesBefore_68 : decode prog_2_method_8_code 68 = .ok (.goto 4, 3) := by decide +kernel
theorem d_G_comesBefore_71 : decode prog_2_method_8_code 71 = .ok (.iconst 0, 1) := by decide +kernel
theorem d_G_comesBefore_72 : decode prog_2_method_8_code 72 = .ok (.ireturn, 1) := by decide +kernel
theorem d_G_comesBefore_73 : decode prog_2_method_8_code 73 = .ok (.aload_n 0, 1) := by decide +kernel
theorem d_G_comesBefore_74 : decode prog_2_method_8_code 74 = .ok (.getfield 14, 3) := by decide +kernel
theorem d_G_comesBefore_77 : decode prog_2_method_8_code 77 = .ok (.iload_n 1, 1) := by decide +kernel
theorem d_G_comesBefore_78 : decode prog_2_method_8_code 78 = .ok (.iload_n 3, 1) := by decide +kernel
theorem d_G_comesBefore_79 : decode prog_2_method_8_code 79 = .ok (.invokevirtual 91, 3) := by decide +kernel
theorem d_G_comesBefore_82 : decode prog_2_method_8_code 82 = .ok (.aload_n 0, 1) := by decide +kernel
theorem d_G_comesBefore_83 : decode prog_2_method_8_code 83 = .ok (.getfield 14, 3) := by decide +kernel
theorem d_G_comesBefore_86 : decode prog_2_method_8_code 86 = .ok (.iload_n 2, 1) := by decide +kernel
theorem d_G_comesBefore_87 : decode prog_2_method_8_code 87 = .ok (.iload_n 3, 1) := by decide +kernel
theorem d_G_comesBefore_88 : decode prog_2_method_8_code 88 = .ok (.invokevirtual 91, 3) := by decide +kernel
theorem d_G_comesBefore_91 : decode prog_2_method_8_code 91 = .ok (.isub, 1) := by decide +kernel
theorem d_G_comesBefore_92 : decode prog_2_method_8_code 92 = .ok (.istore 5, 2) := by decide +kernel
theorem d_G_comesBefore_94 : decode prog_2_method_8_code 94 = .ok (.iload 5, 2) := by decide +kernel
theorem d_G_comesBefore_96 : decode prog_2_method_8_code 96 = .ok (.ifCond .eq 14, 3) := by decide +kernel
theorem d_G_comesBefore_99 : decode prog_2_method_8_code 99 = .ok (.iload 5, 2) := by decide +kernel
theorem d_G_comesBefore_101 : decode prog_2_method_8_code 101 = .ok (.ifCond .ge 7, 3) := by decide +kernel
theorem d_G_comesBefore_104 : decode prog_2_method_8_code 104 = .ok (.iconst 1, 1) := by decide +kernel
theorem d_G_comesBefore_105 : decode prog_2_method_8_code 105 = .ok (.goto 4, 3) := by decide +kernel
theorem d_G_comesBefore_108 : decode prog_2_method_8_code 108 = .ok (.iconst 0, 1) := by decide +kernel
theorem d_G_comesBefore_109 : decode prog_2_method_8_code 109 = .ok (.ireturn, 1) := by decide +kernel
theorem d_G_comesBefore_110 : decode prog_2_method_8_code 110 = .ok (.iload_n 1, 1) := by decide +kernel
theorem d_G_comesBefore_111 : decode prog_2_method_8_code 111 = .ok (.iload_n 2, 1) := by decide +kernel
theorem d_G_comesBefore_112 : decode prog_2_method_8_code 112 = .ok (.if_icmp .ge 7, 3) := by decide +kernel
theorem d_G_comesBefore_115 : decode prog_2_method_8_code 115 = .ok (.iconst 1, 1) := by decide +kernel
theorem d_G_comesBefore_116 : decode prog_2_method_8_code 116 = .ok (.goto 4, 3) := by decide +kernel
theorem d_G_comesBefore_119 : decode prog_2_method_8_code 119 = .ok (.iconst 0, 1) := by decide +kernel
theorem d_G_comesBefore_120 : decode prog_2_method_8_code 120 = .ok (.ireturn, 1) := by decide +kernel
end
section
theorem d_BF_init_0 : decode prog_1_method_1_code 0 = .ok (.aload_n 0, 1) := by decide +kernel
theorem d_BF_init_1 : decode prog_1_method_1_code 1 = .ok (.invokespecial 1, 3) := by decide +kernel
theorem d_BF_init_4 : decode prog_1_method_1_code 4 = .ok (.aload_n 0, 1) := by decide +kernel
theorem d_BF_init_5 : decode prog_1_method_1_code 5 = .ok (.new 7, 3) := by decide +kernel
theorem d_BF_init_8 : decode prog_1_method_1_code 8 = .ok (.dup, 1) := by decide +kernel
theorem d_BF_init_9 : decode prog_1_method_1_code 9 = .ok (.bipush 64, 2) := by decide +kernel
theorem d_BF_init_11 : decode prog_1_method_1_code 11 = .ok (.invokespecial 11, 3) := by decide +kernel
theorem d_BF_init_14 : decode prog_1_method_1_code 14 = .ok (.putfield 14, 3) := by decide +kernel
theorem d_BF_init_17 : decode prog_1_method_1_code 17 = .ok (.aload_n 0, 1) := by decide +kernel
theorem d_BF_init_18 : decode prog_1_method_1_code 18 = .ok (.new 7, 3) := by decide +kernel
theorem d_BF_init_21 : decode prog_1_method_1_code 21 = .ok (.dup, 1) := by decide +kernel
theorem d_BF_init_22 : decode prog_1_method_1_code 22 = .ok (.bipush 8, 2) := by decide +kernel
theorem d_BF_init_24 : decode prog_1_method_1_code 24 = .ok (.invokespecial 11, 3) := by decide +kernel
theorem d_BF_init_27 : decode prog_1_method_1_code 27 = .ok (.putfield 18, 3) := by decide +kernel
theorem d_BF_init_30 : decode prog_1_method_1_code 30 = .ok (.aload_n 0, 1) := by decide +kernel
theorem d_BF_init_31 : decode prog_1_method_1_code 31 = .ok (.new 21, 3) := by decide +kernel
theorem d_BF_init_34 : decode prog_1_method_1_code 34 = .ok (.dup, 1) := by decide +kernel
theorem d_BF_init_35 : decode prog_1_method_1_code 35 = .ok (.invokespecial 23, 3) := by decide +kernel
theorem d_BF_init_38 : decode prog_1_method_1_code 38 = .ok (.putfield 24, 3) := by decide +kernel
theorem d_BF_init_41 : decode prog_1_method_1_code 41 = .ok (.aload_n 0, 1) := by decide +kernel
theorem d_BF_init_42 : decode prog_1_method_1_code 42 = .ok (.new 21, 3) := by decide +kernel
theorem d_BF_init_45 : decode prog_1_method_1_code 45 = .ok (.dup, 1) := by decide +kernel
theorem d_BF_init_46 : decode prog_1_method_1_code 46 = .ok (.invokespecial 23, 3) := by decide +kernel
theorem d_BF_init_49 : decode prog_1_method_1_code 49 = .ok (.putfield 28, 3) := by decide +kernel
theorem d_BF_init_52 : decode prog_1_method_1_code 52 = .ok (.aload_n 0, 1) := by decide +kernel
theorem d_BF_init_53 : decode prog_1_method_1_code 53 = .ok (.new 21, 3) := by decide +kernel
theorem d_BF_init_56 : decode prog_1_method_1_code 56 = .ok (.dup, 1) := by decide +kernel
theorem d_BF_init_57 : decode prog_1_method_1_code 57 = .ok (.invokespecial 23, 3) := by decide +kernel
theorem d_BF_init_60 : decode prog_1_method_1_code 60 = .ok (.putfield 31, 3) := by decide +kernel
theorem d_BF_init_63 : decode prog_1_method_1_code 63 = .ok (.aload_n 0, 1) := by decide +kernel
theorem d_BF_init_64 : decode prog_1_method_1_code 64 = .ok (.new 34, 3) := by decide +kernel
theorem d_BF_init_67 : decode prog_1_method_1_code 67 = .ok (.dup, 1) := by decide +kernel
theorem d_BF_init_68 : decode prog_1_method_1_code 68 = .ok (.invokespecial 36, 3) := by decide +kernel
theorem d_BF_init_71 : decode prog_1_method_1_code 71 = .ok (.putfield 37, 3) := by decide +kernel
theorem d_BF_init_74 : decode prog_1_method_1_code 74 = .ok (.aload_n 0, 1) := by decide +kernel
theorem d_BF_init_75 : decode prog_1_method_1_code 75 = .ok (.new 34, 3) := by decide +kernel
theorem d_BF_init_78 : decode prog_1_method_1_code 78 = .ok (.dup, 1) := by decide +kernel
theorem d_BF_init_79 : decode prog_1_method_1_code 79 = .ok (.invokespecial 36, 3) := by decide +kernel
theorem d_BF_init_82 : decode prog_1_method_1_code 82 = .ok (.putfield 41, 3) := by decide +kernel
theorem d_BF_init_85 : decode prog_1_method_1_code 85 = .ok (.aload_n 0, 1) := by decide +kernel
theorem d_BF_init_86 : decode prog_1_method_1_code 86 = .ok (.bipush 64, 2) := by decide +kernel
theorem d_BF_init_88 : decode prog_1_method_1_code 88 = .ok (.newarray .int, 2) := by decide +kernel
theorem d_BF_init_90 : decode prog_1_method_1_code 90 = .ok (.putfield 44, 3) := by decide +kernel
theorem d_BF_init_93 : decode prog_1_method_1_code 93 = .ok (.aload_n 0, 1) := by decide +kernel
theorem d_BF_init_94 : decode prog_1_method_1_code 94 = .ok (.bipush 64, 2) := by decide +kernel
theorem d_BF_init_96 : decode prog_1_method_1_code 96 = .ok (.newarray .int, 2) := by decide +kernel
theorem d_BF_init_98 : decode prog_1_method_1_code 98 = .ok (.putfield 48, 3) := by decide +kernel
theorem d_BF_init_101 : decode prog_1_method_1_code 101 = .ok (.aload_n 0, 1) := by decide +kernel
theorem d_BF_init_102 : decode prog_1_method_1_code 102 = .ok (.bipush 64, 2) := by decide +kernel
theorem d_BF_init_104 : decode prog_1_method_1_code 104 = .ok (.newarray .int, 2) := by decide +kernel
theorem d_BF_init_106 : decode prog_1_method_1_code 106 = .ok (.putfield 51, 3) := by decide +kernel
theorem d_BF_init_109 : decode prog_1_method_1_code 109 = .ok (.aload_n 0, 1) := by decide +kernel
theorem d_BF_init_110 : decode prog_1_method_1_code 110 = .ok (.bipush 64, 2) := by decide +kernel
theorem d_BF_init_112 : decode prog_1_method_1_code 112 = .ok (.newarray .int, 2) := by decide +kernel
theorem d_BF_init_114 : decode prog_1_method_1_code 114 = .ok (.putfield 54, 3) := by decide +kernel
theorem d_BF_init_117 : decode prog_1_method_1_code 117 = .ok (.aload_n 0, 1) := by decide +kernel
theorem d_BF_init_118 : decode prog_1_method_1_code 118 = .ok (.iconst 0, 1) := by decide +kernel
theorem d_BF_init_119 : decode prog_1_method_1_code 119 = .ok (.putfield 57, 3) := by decide +kernel
theorem d_BF_init_122 : decode prog_1_method_1_code 122 = .ok (.aload_n 0, 1) := by decide +kernel
theorem d_BF_init_123 : decode prog_1_method_1_code 123 = .ok (.iload_n 1, 1) := by decide +kernel
theorem d_BF_init_124 : decode prog_1_method_1_code 124 = .ok (.invokestatic 61, 3) := by decide +kernel
theorem d_BF_init_127 : decode prog_1_method_1_code 127 = .ok (.putfield 65, 3) := by decide +kernel
theorem d_BF_init_130 : decode prog_1_method_1_code 130 = .ok (.aload_n 0, 1) := by decide +kernel
theorem d_BF_init_131 : decode prog_1_method_1_code 131 = .ok (.iload_n 2, 1) := by decide +kernel
theorem d_BF_init_132 : decode prog_1_method_1_code 132 = .ok (.invokestatic 61, 3) := by decide +kernel
theorem d_BF_init_135 : decode prog_1_method_1_code 135 = .ok (.putfield 69, 3) := by decide +kernel
theorem d_BF_init_138 : decode prog_1_method_1_code 138 = .ok (.return_, 1) := by decide +kernel
theorem d_BF_box_0 : decode prog_1_method_2_code 0 = .ok (.aload_n 0, 1) := by decide +kernel
theorem d_BF_box_1 : decode prog_1_method_2_code 1 = .ok (.aload_n 0, 1) := by decide +kernel
theorem d_BF_box_2 : decode prog_1_method_2_code 2 = .ok (.getfield 14, 3) := by decide +kernel
theorem d_BF_box_5 : decode prog_1_method_2_code 5 = .ok (.iload_n 1, 1) := by decide +kernel
theorem d_BF_box_6 : decode prog_1_method_2_code 6 = .ok (.iload_n 2, 1) := by decide +kernel
theorem d_BF_box_7 : decode prog_1_method_2_code 7 = .ok (.iload_n 3, 1) := by decide +kernel
theorem d_BF_box_8 : decode prog_1_method_2_code 8 = .ok (.iload 4, 2) := by decide +kernel
theorem d_BF_box_10 : decode prog_1_method_2_code 10 = .ok (.invokevirtual 72, 3) := by decide +kernel
theorem d_BF_box_13 : decode prog_1_method_2_code 13 = .ok (.istore 5, 2) := by decide +kernel
theorem d_BF_box_15 : decode prog_1_method_2_code 15 = .ok (.iload 5, 2) := by decide +kernel
theorem d_BF_box_17 : decode prog_1_method_2_code 17 = .ok (.ifCond .lt 11, 3) := by decide +kernel
theorem d_BF_box_20 : decode prog_1_method_2_code 20 = .ok (.aload_n 0, 1) := by decide +kernel
theorem d_BF_box_21 : decode prog_1_method_2_code 21 = .ok (.getfield 54, 3) := by decide +kernel
theorem d_BF_box_24 : decode prog_1_method_2_code 24 = .ok (.iload 5, 2) := by decide +kernel
theorem d_BF_box_26 : decode prog_1_method_2_code 26 = .ok (.iconst (-1), 1) := by decide +kernel
theorem d_BF_box_27 : decode prog_1_method_2_code 27 = .ok (.iastore, 1) := by decide +kernel
theorem d_BF_box_28 : decode prog_1_method_2_code 28 = .ok (.iload 5, 2) := by decide +kernel
theorem d_BF_box_30 : decode prog_1_method_2_code 30 = .ok (.ireturn, 1) := by decide +kernel
theorem d_BF_frame_0 : decode prog_1_method_3_code 0 = .ok (.aload_n 0, 1) := by decide +kernel
theorem d_BF_frame_1 : decode prog_1_method_3_code 1 = .ok (.aload_n 0, 1) := by decide +kernel
theorem d_BF_frame_2 : decode prog_1_method_3_code 2 = .ok (.getfield 18, 3) := by decide +kernel
theorem d_BF_frame_5 : decode prog_1_method_3_code 5 = .ok (.iload_n 1, 1) := by decide +kernel
theorem d_BF_frame_6 : decode prog_1_method_3_code 6 = .ok (.iload_n 2, 1) := by decide +kernel
theorem d_BF_frame_7 : decode prog_1_method_3_code 7 = .ok (.iload_n 3, 1) := by decide +kernel
theorem d_BF_frame_8 : decode prog_1_method_3_code 8 = .ok (.iload 4, 2) := by decide +kernel
theorem d_BF_frame_10 : decode prog_1_method_3_code 10 = .ok (.invokevirtual 72, 3) := by decide +kernel
theorem d_BF_frame_13 : decode prog_1_method_3_code 13 = .ok (.ireturn, 1) := by decide +kernel
theorem d_BF_find_0 : decode prog_1_method_4_code 0 = .ok (.aload_n 0, 1) := by decide +kernel
theorem d_BF_find_1 : decode prog_1_method_4_code 1 = .ok (.aload_n 0, 1) := by decide +kernel
theorem d_BF_find_2 : decode prog_1_method_4_code 2 = .ok (.getfield 24, 3) := by decide +kernel
theorem d_BF_find_5 : decode prog_1_method_4_code 5 = .ok (.iconst 0, 1) := by decide +kernel
theorem d_BF_find_6 : decode prog_1_method_4_code 6 = .ok (.invokevirtual 76, 3) := by decide +kernel
theorem d_BF_find_9 : decode prog_1_method_4_code 9 = .ok (.aload_n 0, 1) := by decide +kernel
theorem d_BF_find_10 : decode prog_1_method_4_code 10 = .ok (.aload_n 0, 1) := by decide +kernel
theorem d_BF_find_11 : decode prog_1_method_4_code 11 = .ok (.getfield 28, 3) := by decide +kernel
theorem d_BF_find_14 : decode prog_1_method_4_code 14 = .ok (.iconst 1, 1) := by decide +kernel
theorem d_BF_find_15 : decode prog_1_method_4_code 15 = .ok (.invokevirtual 76, 3) := by decide +kernel
theorem d_BF_find_18 : decode prog_1_method_4_code 18 = .ok (.aload_n 0, 1) := by decide +kernel
theorem d_BF_find_19 : decode prog_1_method_4_code 19 = .ok (.aload_n 0, 1) := by decide +kernel
theorem d_BF_find_20 : decode prog_1_method_4_code 20 = .ok (.getfield 28, 3) := by decide +kernel
theorem d_BF_find_23 : decode prog_1_method_4_code 23 = .ok (.getfield 80, 3) := by decide +kernel
theorem d_BF_find_26 : decode prog_1_method_4_code 26 = .ok (.aload_n 0, 1) := by decide +kernel
theorem d_BF_find_27 : decode prog_1_method_4_code 27 = .ok (.getfield 24, 3) := by decide +kernel
theorem d_BF_find_30 : decode prog_1_method_4_code 30 = .ok (.getfield 80, 3) := by decide +kernel
theorem d_BF_find_33 : decode prog_1_method_4_code 33 = .ok (.if_icmp .ge 7, 3) := by decide +kernel
theorem d_BF_find_36 : decode prog_1_method_4_code 36 = .ok (.iconst 1, 1) := by decide +kernel
theorem d_BF_find_37 : decode prog_1_method_4_code 37 = .ok (.goto 4, 3) := by decide +kernel
theorem d_BF_find_40 : decode prog_1_method_4_code 40 = .ok (.iconst 0, 1) := by decide +kernel
theorem d_BF_find_41 : decode prog_1_method_4_code 41 = .ok (.putfield 57, 3) := by decide +kernel
theorem d_BF_find_44 : decode prog_1_method_4_code 44 = .ok (.aload_n 0, 1) := by decide +kernel
theorem d_BF_find_45 : decode prog_1_method_4_code 45 = .ok (.getfield 37, 3) := by decide +kernel
theorem d_BF_find_48 : decode prog_1_method_4_code 48 = .ok (.aload_n 0, 1) := by decide +kernel
theorem d_BF_find_49 : decode prog_1_method_4_code 49 = .ok (.getfield 14, 3) := by decide +kernel
theorem d_BF_find_52 : decode prog_1_method_4_code 52 = .ok (.aload_n 0, 1) := by decide +kernel
theorem d_BF_find_53 : decode prog_1_method_4_code 53 = .ok (.getfield 57, 3) := by decide +kernel
theorem d_BF_find_56 : decode prog_1_method_4_code 56 = .ok (.ifCond .eq 10, 3) := by decide +kernel
theorem d_BF_find_59 : decode prog_1_method_4_code 59 = .ok (.aload_n 0, 1) := by decide +kernel
theorem d_BF_find_60 : decode prog_1_method_4_code 60 = .ok (.getfield 28, 3) := by decide +kernel
theorem d_BF_find_63 : decode prog_1_method_4_code 63 = .ok (.goto 7, 3) := by decide +kernel
theorem d_BF_find_66 : decode prog_1_method_4_code 66 = .ok (.aload_n 0, 1) := by decide +kernel
theorem d_BF_find_67 : decode prog_1_method_4_code 67 = .ok (.getfield 24, 3) := by decide +kernel
theorem d_BF_find_70 : decode prog_1_method_4_code 70 = .ok (.invokevirtual 83, 3) := by decide +kernel
theorem d_BF_find_73 : decode prog_1_method_4_code 73 = .ok (.aload_n 0, 1) := by decide +kernel
theorem d_BF_find_74 : decode prog_1_method_4_code 74 = .ok (.invokevirtual 87, 3) := by decide +kernel
theorem d_BF_find_77 : decode prog_1_method_4_code 77 = .ok (.aload_n 0, 1) := by decide +kernel
theorem d_BF_find_78 : decode prog_1_method_4_code 78 = .ok (.getfield 41, 3) := by decide +kernel
theorem d_BF_find_81 : decode prog_1_method_4_code 81 = .ok (.aload_n 0, 1) := by decide +kernel
theorem d_BF_find_82 : decode prog_1_method_4_code 82 = .ok (.getfield 37, 3) := by decide +kernel
theorem d_BF_find_85 : decode prog_1_method_4_code 85 = .ok (.getfield 90, 3) := by decide +kernel
theorem d_BF_find_88 : decode prog_1_method_4_code 88 = .ok (.aload_n 0, 1) := by decide +kernel
theorem d_BF_find_89 : decode prog_1_method_4_code 89 = .ok (.getfield 31, 3) := by decide +kernel
theorem d_BF_find_92 : decode prog_1_method_4_code 92 = .ok (.invokevirtual 83, 3) := by decide +kernel
theorem d_BF_find_95 : decode prog_1_method_4_code 95 = .ok (.aload_n 0, 1) := by decide +kernel
theorem d_BF_find_96 : decode prog_1_method_4_code 96 = .ok (.invokevirtual 93, 3) := by decide +kernel
theorem d_BF_find_99 : decode prog_1_method_4_code 99 = .ok (.iconst 0, 1) := by decide +kernel
theorem d_BF_find_100 : decode prog_1_method_4_code 100 = .ok (.istore_n 1, 1) := by decide +kernel
theorem d_BF_find_101 : decode prog_1_method_4_code 101 = .ok (.iload_n 1, 1) := by decide +kernel
theorem d_BF_find_102 : decode prog_1_method_4_code 102 = .ok (.aload_n 0, 1) := by decide +kernel
theorem d_BF_find_103 : decode prog_1_method_4_code 103 = .ok (.getfield 41, 3) := by decide +kernel
theorem d_BF_find_106 : decode prog_1_method_4_code 106 = .ok (.invokevirtual 96, 3) := by decide +kernel
theorem d_BF_find_109 : decode prog_1_method_4_code 109 = .ok (.if_icmp .ge 23, 3) := by decide +kernel
theorem d_BF_find_112 : decode prog_1_method_4_code 112 = .ok (.aload_n 0, 1) := by decide +kernel
theorem d_BF_find_113 : decode prog_1_method_4_code 113 = .ok (.getfield 41, 3) := by decide +kernel
theorem d_BF_find_116 : decode prog_1_method_4_code 116 = .ok (.getfield 100, 3) := by decide +kernel
theorem d_BF_find_119 : decode prog_1_method_4_code 119 = .ok (.iload_n 1, 1) := by decide +kernel
theorem d_BF_find_120 : decode prog_1_method_4_code 120 = .ok (.aload_n 0, 1) := by decide +kernel
theorem d_BF_find_121 : decode prog_1_method_4_code 121 = .ok (.iload_n 1, 1) := by decide +kernel
theorem d_BF_find_122 : decode prog_1_method_4_code 122 = .ok (.invokevirtual 103, 3) := by decide +kernel
theorem d_BF_find_125 : decode prog_1_method_4_code 125 = .ok (.iastore, 1) := by decide +kernel
theorem d_BF_find_126 : decode prog_1_method_4_code 126 = .ok (.iinc 1 1, 3) := by decide +kernel
theorem d_BF_find_129 : decode prog_1_method_4_code 129 = .ok (.goto (-28), 3) := by decide +kernel
theorem d_BF_find_132 : decode prog_1_method_4_code 132 = .ok (.aload_n 0, 1) := by decide +kernel
theorem d_BF_find_133 : decode prog_1_method_4_code 133 = .ok (.getfield 37, 3) := by decide +kernel
theorem d_BF_find_136 : decode prog_1_method_4_code 136 = .ok (.aload_n 0, 1) := by decide +kernel
theorem d_BF_find_137 : decode prog_1_method_4_code 137 = .ok (.getfield 57, 3) := by decide +kernel
theorem d_BF_find_140 : decode prog_1_method_4_code 140 = .ok (.invokevirtual 106, 3) := by decide +kernel
theorem d_BF_find_143 : decode prog_1_method_4_code 143 = .ok (.aload_n 0, 1) := by decide +kernel
theorem d_BF_find_144 : decode prog_1_method_4_code 144 = .ok (.getfield 41, 3) := by decide +kernel
theorem d_BF_find_147 : decode prog_1_method_4_code 147 = .ok (.aload_n 0, 1) := by decide +kernel
theorem d_BF_find_148 : decode prog_1_method_4_code 148 = .ok (.getfield 57, 3) := by decide +kernel
theorem d_BF_find_151 : decode prog_1_method_4_code 151 = .ok (.invokevirtual 106, 3) := by decide +kernel
theorem d_BF_find_154 : decode prog_1_method_4_code 154 = .ok (.iconst 0, 1) := by decide +kernel
theorem d_BF_find_155 : decode prog_1_method_4_code 155 = .ok (.istore_n 1, 1) := by decide +kernel
theorem d_BF_find_156 : decode prog_1_method_4_code 156 = .ok (.iload_n 1, 1) := by decide +kernel
theorem d_BF_find_157 : decode prog_1_method_4_code 157 = .ok (.aload_n 0, 1) := by decide +kernel
theorem d_BF_find_158 : decode prog_1_method_4_code 158 = .ok (.getfield 14, 3) := by decide +kernel
theorem d_BF_find_161 : decode prog_1_method_4_code 161 = .ok (.getfield 110, 3) := by decide +kernel
theorem d_BF_find_164 : decode prog_1_method_4_code 164 = .ok (.if_icmp .ge 28, 3) := by decide +kernel
theorem d_BF_find_167 : decode prog_1_method_4_code 167 = .ok (.aload_n 0, 1) := by decide +kernel
theorem d_BF_find_168 : decode prog_1_method_4_code 168 = .ok (.getfield 54, 3) := by decide +kernel
theorem d_BF_find_171 : decode prog_1_method_4_code 171 = .ok (.iload_n 1, 1) := by decide +kernel
theorem d_BF_find_172 : decode prog_1_method_4_code 172 = .ok (.aload_n 0, 1) := by decide +kernel
theorem d_BF_find_173 : decode prog_1_method_4_code 173 = .ok (.getfield 41, 3) := by decide +kernel
theorem d_BF_find_176 : decode prog_1_method_4_code 176 = .ok (.getfield 111, 3) := by decide +kernel
theorem d_BF_find_179 : decode prog_1_method_4_code 179 = .ok (.aload_n 0, 1) := by decide +kernel
theorem d_BF_find_180 : decode prog_1_method_4_code 180 = .ok (.iload_n 1, 1) := by decide +kernel
theorem d_BF_find_181 : decode prog_1_method_4_code 181 = .ok (.invokevirtual 114, 3) := by decide +kernel
theorem d_BF_find_184 : decode prog_1_method_4_code 184 = .ok (.iaload, 1) := by decide +kernel
theorem d_BF_find_185 : decode prog_1_method_4_code 185 = .ok (.iastore, 1) := by decide +kernel
theorem d_BF_find_186 : decode prog_1_method_4_code 186 = .ok (.iinc 1 1, 3) := by decide +kernel
theorem d_BF_find_189 : decode prog_1_method_4_code 189 = .ok (.goto (-33), 3) := by decide +kernel
theorem d_BF_find_192 : decode prog_1_method_4_code 192 = .ok (.aload_n 0, 1) := by decide +kernel
theorem d_BF_find_193 : decode prog_1_method_4_code 193 = .ok (.getfield 41, 3) := by decide +kernel
theorem d_BF_find_196 : decode prog_1_method_4_code 196 = .ok (.invokevirtual 96, 3) := by decide +kernel
theorem d_BF_find_199 : decode prog_1_method_4_code 199 = .ok (.ireturn, 1) := by decide +kernel
theorem d_BF_block_0 : decode prog_1_method_5_code 0 = .ok (.aload_n 0, 1) := by decide +kernel
theorem d_BF_block_1 : decode prog_1_method_5_code 1 = .ok (.getfield 41, 3) := by decide +kernel
theorem d_BF_block_4 : decode prog_1_method_5_code 4 = .ok (.iload_n 1, 1) := by decide +kernel
theorem d_BF_block_5 : decode prog_1_method_5_code 5 = .ok (.invokevirtual 117, 3) := by decide +kernel
theorem d_BF_block_8 : decode prog_1_method_5_code 8 = .ok (.ifCond .ne 6, 3) := by decide +kernel
theorem d_BF_block_11 : decode prog_1_method_5_code 11 = .ok (.bipush (-11), 2) := by decide +kernel
theorem d_BF_block_13 : decode prog_1_method_5_code 13 = .ok (.ireturn, 1) := by decide +kernel
theorem d_BF_block_14 : decode prog_1_method_5_code 14 = .ok (.iload_n 2, 1) := by decide +kernel
theorem d_BF_block_15 : decode prog_1_method_5_code 15 = .ok (.invokestatic 121, 3) := by decide +kernel
theorem d_BF_block_18 : decode prog_1_method_5_code 18 = .ok (.ifCond .ne 6, 3) := by decide +kernel
theorem d_BF_block_21 : decode prog_1_method_5_code 21 = .ok (.bipush (-12), 2) := by decide +kernel
theorem d_BF_block_23 : decode prog_1_method_5_code 23 = .ok (.ireturn, 1) := by decide +kernel
theorem d_BF_block_24 : decode prog_1_method_5_code 24 = .ok (.aload_n 0, 1) := by decide +kernel
theorem d_BF_block_25 : decode prog_1_method_5_code 25 = .ok (.getfield 41, 3) := by decide +kernel
theorem d_BF_block_28 : decode prog_1_method_5_code 28 = .ok (.getfield 124, 3) := by decide +kernel
theorem d_BF_block_31 : decode prog_1_method_5_code 31 = .ok (.iload_n 1, 1) := by decide +kernel
theorem d_BF_block_32 : decode prog_1_method_5_code 32 = .ok (.iaload, 1) := by decide +kernel
theorem d_BF_block_33 : decode prog_1_method_5_code 33 = .ok (.istore_n 3, 1) := by decide +kernel
theorem d_BF_block_34 : decode prog_1_method_5_code 34 = .ok (.iload_n 2, 1) := by decide +kernel
theorem d_BF_block_35 : decode prog_1_method_5_code 35 = .ok (.lookupswitch 42 #[(4, 25), (5, 35)], 25) := by decide +kernel
theorem d_BF_block_60 : decode prog_1_method_5_code 60 = .ok (.aload_n 0, 1) := by decide +kernel
theorem d_BF_block_61 : decode prog_1_method_5_code 61 = .ok (.getfield 41, 3) := by decide +kernel
theorem d_BF_block_64 : decode prog_1_method_5_code 64 = .ok (.getfield 127, 3) := by decide +kernel
theorem d_BF_block_67 : decode prog_1_method_5_code 67 = .ok (.iload_n 3, 1) := by decide +kernel
theorem d_BF_block_68 : decode prog_1_method_5_code 68 = .ok (.iaload, 1) := by decide +kernel
theorem d_BF_block_69 : decode prog_1_method_5_code 69 = .ok (.ireturn, 1) := by decide +kernel
theorem d_BF_block_70 : decode prog_1_method_5_code 70 = .ok (.aload_n 0, 1) := by decide +kernel
theorem d_BF_block_71 : decode prog_1_method_5_code 71 = .ok (.getfield 44, 3) := by decide +kernel
theorem d_BF_block_74 : decode prog_1_method_5_code 74 = .ok (.iload_n 3, 1) := by decide +kernel
theorem d_BF_block_75 : decode prog_1_method_5_code 75 = .ok (.iaload, 1) := by decide +kernel
theorem d_BF_block_76 : decode prog_1_method_5_code 76 = .ok (.ireturn, 1) := by decide +kernel
theorem d_BF_block_77 : decode prog_1_method_5_code 77 = .ok (.aload_n 0, 1) := by decide +kernel
theorem d_BF_block_78 : decode prog_1_method_5_code 78 = .ok (.getfield 41, 3) := by decide +kernel
theorem d_BF_block_81 : decode prog_1_method_5_code 81 = .ok (.getfield 90, 3) := by decide +kernel
theorem d_BF_block_84 : decode prog_1_method_5_code 84 = .ok (.iload_n 3, 1) := by decide +kernel
theorem d_BF_block_85 : decode prog_1_method_5_code 85 = .ok (.iload_n 2, 1) := by decide +kernel
theorem d_BF_block_86 : decode prog_1_method_5_code 86 = .ok (.invokevirtual 130, 3) := by decide +kernel
theorem d_BF_block_89 : decode prog_1_method_5_code 89 = .ok (.ireturn, 1) := by decide +kernel
theorem d_BF_line_0 : decode prog_1_method_6_code 0 = .ok (.aload_n 0, 1) := by decide +kernel
theorem d_BF_line_1 : decode prog_1_method_6_code 1 = .ok (.getfield 41, 3) := by decide +kernel
theorem d_BF_line_4 : decode prog_1_method_6_code 4 = .ok (.iload_n 1, 1) := by decide +kernel
theorem d_BF_line_5 : decode prog_1_method_6_code 5 = .ok (.invokevirtual 117, 3) := by decide +kernel
theorem d_BF_line_8 : decode prog_1_method_6_code 8 = .ok (.ifCond .ne 6, 3) := by decide +kernel
theorem d_BF_line_11 : decode prog_1_method_6_code 11 = .ok (.bipush (-11), 2) := by decide +kernel
theorem d_BF_line_13 : decode prog_1_method_6_code 13 = .ok (.ireturn, 1) := by decide +kernel
theorem d_BF_line_14 : decode prog_1_method_6_code 14 = .ok (.iload_n 3, 1) := by decide +kernel
theorem d_BF_line_15 : decode prog_1_method_6_code 15 = .ok (.invokestatic 121, 3) := by decide +kernel
theorem d_BF_line_18 : decode prog_1_method_6_code 18 = .ok (.ifCond .ne 6, 3) := by decide +kernel
theorem d_BF_line_21 : decode prog_1_method_6_code 21 = .ok (.bipush (-12), 2) := by decide +kernel
theorem d_BF_line_23 : decode prog_1_method_6_code 23 = .ok (.ireturn, 1) := by decide +kernel
theorem d_BF_line_24 : decode prog_1_method_6_code 24 = .ok (.aload_n 0, 1) := by decide +kernel
theorem d_BF_line_25 : decode prog_1_method_6_code 25 = .ok (.aload_n 0, 1) := by decide +kernel
theorem d_BF_line_26 : decode prog_1_method_6_code 26 = .ok (.getfield 41, 3) := by decide +kernel
theorem d_BF_line_29 : decode prog_1_method_6_code 29 = .ok (.getfield 124, 3) := by decide +kernel
theorem d_BF_line_32 : decode prog_1_method_6_code 32 = .ok (.iload_n 1, 1) := by decide +kernel
theorem d_BF_line_33 : decode prog_1_method_6_code 33 = .ok (.iaload, 1) := by decide +kernel
theorem d_BF_line_34 : decode prog_1_method_6_code 34 = .ok (.iload_n 2, 1) := by decide +kernel
theorem d_BF_line_35 : decode prog_1_method_6_code 35 = .ok (.invokevirtual 134, 3) := by decide +kernel
theorem d_BF_line_38 : decode prog_1_method_6_code 38 = .ok (.istore 4, 2) := by decide +kernel
theorem d_BF_line_40 : decode prog_1_method_6_code 40 = .ok (.iload 4, 2) := by decide +kernel
theorem d_BF_line_42 : decode prog_1_method_6_code 42 = .ok (.ifCond .ge 5, 3) := by decide +kernel
theorem d_BF_line_45 : decode prog_1_method_6_code 45 = .ok (.iconst (-1), 1) := by decide +kernel
theorem d_BF_line_46 : decode prog_1_method_6_code 46 = .ok (.ireturn, 1) := by decide +kernel
theorem d_BF_line_47 : decode prog_1_method_6_code 47 = .ok (.iload_n 3, 1) := by decide +kernel
theorem d_BF_line_48 : decode prog_1_method_6_code 48 = .ok (.lookupswitch 50 #[(4, 28), (5, 39)], 28) := by decide +kernel
theorem d_BF_line_76 : decode prog_1_method_6_code 76 = .ok (.aload_n 0, 1) := by decide +kernel
theorem d_BF_line_77 : decode prog_1_method_6_code 77 = .ok (.getfield 37, 3) := by decide +kernel
theorem d_BF_line_80 : decode prog_1_method_6_code 80 = .ok (.getfield 127, 3) := by decide +kernel
theorem d_BF_line_83 : decode prog_1_method_6_code 83 = .ok (.iload 4, 2) := by decide +kernel
theorem d_BF_line_85 : decode prog_1_method_6_code 85 = .ok (.iaload, 1) := by decide +kernel
theorem d_BF_line_86 : decode prog_1_method_6_code 86 = .ok (.ireturn, 1) := by decide +kernel
theorem d_BF_line_87 : decode prog_1_method_6_code 87 = .ok (.aload_n 0, 1) := by decide +kernel
theorem d_BF_line_88 : decode prog_1_method_6_code 88 = .ok (.getfield 37, 3) := by decide +kernel
theorem d_BF_line_91 : decode prog_1_method_6_code 91 = .ok (.getfield 137, 3) := by decide +kernel
theorem d_BF_line_94 : decode prog_1_method_6_code 94 = .ok (.iload 4, 2) := by decide +kernel
theorem d_BF_line_96 : decode prog_1_method_6_code 96 = .ok (.iaload, 1) := by decide +kernel
theorem d_BF_line_97 : decode prog_1_method_6_code 97 = .ok (.ireturn, 1) := by decide +kernel
theorem d_BF_line_98 : decode prog_1_method_6_code 98 = .ok (.aload_n 0, 1) := by decide +kernel
theorem d_BF_line_99 : decode prog_1_method_6_code 99 = .ok (.getfield 37, 3) := by decide +kernel
theorem d_BF_line_102 : decode prog_1_method_6_code 102 = .ok (.getfield 90, 3) := by decide +kernel
theorem d_BF_line_105 : decode prog_1_method_6_code 105 = .ok (.iload 4, 2) := by decide +kernel
theorem d_BF_line_107 : decode prog_1_method_6_code 107 = .ok (.iload_n 3, 1) := by decide +kernel
theorem d_BF_line_108 : decode prog_1_method_6_code 108 = .ok (.invokevirtual 130, 3) := by decide +kernel
theorem d_BF_line_111 : decode prog_1_method_6_code 111 = .ok (.ireturn, 1) := by decide +kernel
theorem d_BF_points_0 : decode prog_1_method_7_code 0 = .ok (.aload_n 0, 1) := by decide +kernel
theorem d_BF_points_1 : decode prog_1_method_7_code 1 = .ok (.getfield 41, 3) := by decide +kernel
theorem d_BF_points_4 : decode prog_1_method_7_code 4 = .ok (.iload_n 1, 1) := by decide +kernel
theorem d_BF_points_5 : decode prog_1_method_7_code 5 = .ok (.invokevirtual 117, 3) := by decide +kernel
theorem d_BF_points_8 : decode prog_1_method_7_code 8 = .ok (.ifCond .eq 23, 3) := by decide +kernel
theorem d_BF_points_11 : decode prog_1_method_7_code 11 = .ok (.aload_n 0, 1) := by decide +kernel
theorem d_BF_points_12 : decode prog_1_method_7_code 12 = .ok (.getfield 41, 3) := by decide +kernel
theorem d_BF_points_15 : decode prog_1_method_7_code 15 = .ok (.getfield 100, 3) := by decide +kernel
theorem d_BF_points_18 : decode prog_1_method_7_code 18 = .ok (.aload_n 0, 1) := by decide +kernel
theorem d_BF_points_19 : decode prog_1_method_7_code 19 = .ok (.getfield 41, 3) := by decide +kernel
theorem d_BF_points_22 : decode prog_1_method_7_code 22 = .ok (.getfield 124, 3) := by decide +kernel
theorem d_BF_points_25 : decode prog_1_method_7_code 25 = .ok (.iload_n 1, 1) := by decide +kernel
theorem d_BF_points_26 : decode prog_1_method_7_code 26 = .ok (.iaload, 1) := by decide +kernel
theorem d_BF_points_27 : decode prog_1_method_7_code 27 = .ok (.iaload, 1) := by decide +kernel
theorem d_BF_points_28 : decode prog_1_method_7_code 28 = .ok (.goto 5, 3) := by decide +kernel
theorem d_BF_points_31 : decode prog_1_method_7_code 31 = .ok (.bipush (-11), 2) := by decide +kernel
theorem d_BF_points_33 : decode prog_1_method_7_code 33 = .ok (.ireturn, 1) := by decide +kernel
theorem d_BF_printed_0 : decode prog_1_method_8_code 0 = .ok (.aload_n 0, 1) := by decide +kernel
theorem d_BF_printed_1 : decode prog_1_method_8_code 1 = .ok (.getfield 41, 3) := by decide +kernel
theorem d_BF_printed_4 : decode prog_1_method_8_code 4 = .ok (.iload_n 1, 1) := by decide +kernel
theorem d_BF_printed_5 : decode prog_1_method_8_code 5 = .ok (.invokevirtual 117, 3) := by decide +kernel
theorem d_BF_printed_8 : decode prog_1_method_8_code 8 = .ok (.ifCond .ne 5, 3) := by decide +kernel
theorem d_BF_printed_11 : decode prog_1_method_8_code 11 = .ok (.iconst 0, 1) := by decide +kernel
theorem d_BF_printed_12 : decode prog_1_method_8_code 12 = .ok (.ireturn, 1) := by decide +kernel
theorem d_BF_printed_13 : decode prog_1_method_8_code 13 = .ok (.aload_n 0, 1) := by decide +kernel
theorem d_BF_printed_14 : decode prog_1_method_8_code 14 = .ok (.getfield 41, 3) := by decide +kernel
theorem d_BF_printed_17 : decode prog_1_method_8_code 17 = .ok (.getfield 124, 3) := by decide +kernel
theorem d_BF_printed_20 : decode prog_1_method_8_code 20 = .ok (.iload_n 1, 1) := by decide +kernel
theorem d_BF_printed_21 : decode prog_1_method_8_code 21 = .ok (.iaload, 1) := by decide +kernel
theorem d_BF_printed_22 : decode prog_1_method_8_code 22 = .ok (.istore_n 2, 1) := by decide +kernel
theorem d_BF_printed_23 : decode prog_1_method_8_code 23 = .ok (.iconst 4, 1) := by decide +kernel
theorem d_BF_printed_24 : decode prog_1_method_8_code 24 = .ok (.aload_n 0, 1) := by decide +kernel
theorem d_BF_printed_25 : decode prog_1_method_8_code 25 = .ok (.getfield 48, 3) := by decide +kernel
theorem d_BF_printed_28 : decode prog_1_method_8_code 28 = .ok (.iload_n 2, 1) := by decide +kernel
theorem d_BF_printed_29 : decode prog_1_method_8_code 29 = .ok (.iaload, 1) := by decide +kernel
theorem d_BF_printed_30 : decode prog_1_method_8_code 30 = .ok (.aload_n 0, 1) := by decide +kernel
theorem d_BF_printed_31 : decode prog_1_method_8_code 31 = .ok (.getfield 51, 3) := by decide +kernel
theorem d_BF_printed_34 : decode prog_1_method_8_code 34 = .ok (.iload_n 2, 1) := by decide +kernel
theorem d_BF_printed_35 : decode prog_1_method_8_code 35 = .ok (.iaload, 1) := by decide +kernel
theorem d_BF_printed_36 : decode prog_1_method_8_code 36 = .ok (.isub, 1) := by decide +kernel
theorem d_BF_printed_37 : decode prog_1_method_8_code 37 = .ok (.imul, 1) := by decide +kernel
theorem d_BF_printed_38 : decode prog_1_method_8_code 38 = .ok (.aload_n 0, 1) := by decide +kernel
theorem d_BF_printed_39 : decode prog_1_method_8_code 39 = .ok (.getfield 48, 3) := by decide +kernel
theorem d_BF_printed_42 : decode prog_1_method_8_code 42 = .ok (.iload_n 2, 1) := by decide +kernel
theorem d_BF_printed_43 : decode prog_1_method_8_code 43 = .ok (.iaload, 1) := by decide +kernel
theorem d_BF_printed_44 : decode prog_1_method_8_code 44 = .ok (.if_icmp .gt 7, 3) := by decide +kernel
theorem d_BF_printed_47 : decode prog_1_method_8_code 47 = .ok (.iconst 1, 1) := by decide +kernel
theorem d_BF_printed_48 : decode prog_1_method_8_code 48 = .ok (.goto 4, 3) := by decide +kernel
theorem d_BF_printed_51 : decode prog_1_method_8_code 51 = .ok (.iconst 0, 1) := by decide +kernel
theorem d_BF_printed_52 : decode prog_1_method_8_code 52 = .ok (.ireturn, 1) := by decide +kernel
theorem d_BF_turned_0 : decode prog_1_method_9_code 0 = .ok (.aload_n 0, 1) := by decide +kernel
theorem d_BF_turned_1 : decode prog_1_method_9_code 1 = .ok (.getfield 57, 3) := by decide +kernel
theorem d_BF_turned_4 : decode prog_1_method_9_code 4 = .ok (.ireturn, 1) := by decide +kernel
theorem d_BF_blockOf_0 : decode prog_1_method_10_code 0 = .ok (.aload_n 0, 1) := by decide +kernel
theorem d_BF_blockOf_1 : decode prog_1_method_10_code 1 = .ok (.getfield 14, 3) := by decide +kernel
theorem d_BF_blockOf_4 : decode prog_1_method_10_code 4 = .ok (.iload_n 1, 1) := by decide +kernel
theorem d_BF_blockOf_5 : decode prog_1_method_10_code 5 = .ok (.invokevirtual 140, 3) := by decide +kernel
theorem d_BF_blockOf_8 : decode prog_1_method_10_code 8 = .ok (.ifCond .eq 12, 3) := by decide +kernel
theorem d_BF_blockOf_11 : decode prog_1_method_10_code 11 = .ok (.aload_n 0, 1) := by decide +kernel
theorem d_BF_blockOf_12 : decode prog_1_method_10_code 12 = .ok (.getfield 54, 3) := by decide +kernel
theorem d_BF_blockOf_15 : decode prog_1_method_10_code 15 = .ok (.iload_n 1, 1) := by decide +kernel
theorem d_BF_blockOf_16 : decode prog_1_method_10_code 16 = .ok (.iaload, 1) := by decide +kernel
theorem d_BF_blockOf_17 : decode prog_1_method_10_code 17 = .ok (.goto 5, 3) := by decide +kernel
theorem d_BF_blockOf_20 : decode prog_1_method_10_code 20 = .ok (.bipush (-11), 2) := by decide +kernel
theorem d_BF_blockOf_22 : decode prog_1_method_10_code 22 = .ok (.ireturn, 1) := by decide +kernel
theorem d_BF_candidates_0 : decode prog_1_method_11_code 0 = .ok (.iconst 0, 1) := by decide +kernel
theorem d_BF_candidates_1 : decode prog_1_method_11_code 1 = .ok (.istore_n 1, 1) := by decide +kernel
theorem d_BF_candidates_2 : decode prog_1_method_11_code 2 = .ok (.iconst 0, 1) := by decide +kernel
theorem d_BF_candidates_3 : decode prog_1_method_11_code 3 = .ok (.istore_n 2, 1) := by decide +kernel
theorem d_BF_candidates_4 : decode prog_1_method_11_code 4 = .ok (.iload_n 2, 1) := by decide +kernel
theorem d_BF_candidates_5 : decode prog_1_method_11_code 5 = .ok (.aload_n 0, 1) := by decide +kernel
theorem d_BF_candidates_6 : decode prog_1_method_11_code 6 = .ok (.getfield 41, 3) := by decide +kernel
theorem d_BF_candidates_9 : decode prog_1_method_11_code 9 = .ok (.invokevirtual 96, 3) := by decide +kernel
theorem d_BF_candidates_12 : decode prog_1_method_11_code 12 = .ok (.if_icmp .ge 24, 3) := by decide +kernel
theorem d_BF_candidates_15 : decode prog_1_method_11_code 15 = .ok (.aload_n 0, 1) := by decide +kernel
theorem d_BF_candidates_16 : decode prog_1_method_11_code 16 = .ok (.getfield 41, 3) := by decide +kernel
theorem d_BF_candidates_19 : decode prog_1_method_11_code 19 = .ok (.getfield 100, 3) := by decide +kernel
theorem d_BF_candidates_22 : decode prog_1_method_11_code 22 = .ok (.iload_n 2, 1) := by decide +kernel
theorem d_BF_candidates_23 : decode prog_1_method_11_code 23 = .ok (.iaload, 1) := by decide +kernel
theorem d_BF_candidates_24 : decode prog_1_method_11_code 24 = .ok (.ifCond .le 6, 3) := by decide +kernel
theorem d_BF_candidates_27 : decode prog_1_method_11_code 27 = .ok (.iinc 1 1, 3) := by decide +kernel
theorem d_BF_candidates_30 : decode prog_1_method_11_code 30 = .ok (.iinc 2 1, 3) := by decide +kernel
theorem d_BF_candidates_33 : decode prog_1_method_11_code 33 = .ok (.goto (-29), 3) := by decide +kernel
theorem d_BF_candidates_36 : decode prog_1_method_11_code 36 = .ok (.iload_n 1, 1) := by decide +kernel
theorem d_BF_candidates_37 : decode prog_1_method_11_code 37 = .ok (.ireturn, 1) := by decide +kernel
theorem d_BF_clear_0 : decode prog_1_method_12_code 0 = .ok (.aload_n 0, 1) := by decide +kernel
theorem d_BF_clear_1 : decode prog_1_method_12_code 1 = .ok (.getfield 14, 3) := by decide +kernel
theorem d_BF_clear_4 : decode prog_1_method_12_code 4 = .ok (.getfield 110, 3) := by decide +kernel
theorem d_BF_clear_7 : decode prog_1_method_12_code 7 = .ok (.istore_n 1, 1) := by decide +kernel
theorem d_BF_clear_8 : decode prog_1_method_12_code 8 = .ok (.aload_n 0, 1) := by decide +kernel
theorem d_BF_clear_9 : decode prog_1_method_12_code 9 = .ok (.getfield 14, 3) := by decide +kernel
theorem d_BF_clear_12 : decode prog_1_method_12_code 12 = .ok (.iconst 0, 1) := by decide +kernel
theorem d_BF_clear_13 : decode prog_1_method_12_code 13 = .ok (.putfield 110, 3) := by decide +kernel
theorem d_BF_clear_16 : decode prog_1_method_12_code 16 = .ok (.iload_n 1, 1) := by decide +kernel
theorem d_BF_clear_17 : decode prog_1_method_12_code 17 = .ok (.ireturn, 1) := by decide +kernel
theorem d_BF_nearestSide_0 : decode prog_1_method_13_code 0 = .ok (.iconst 1, 1) := by decide +kernel
theorem d_BF_nearestSide_1 : decode prog_1_method_13_code 1 = .ok (.sipush 4096, 3) := by decide +kernel
theorem d_BF_nearestSide_4 : decode prog_1_method_13_code 4 = .ok (.iload_n 0, 1) := by decide +kernel
theorem d_BF_nearestSide_5 : decode prog_1_method_13_code 5 = .ok (.invokestatic 141, 3) := by decide +kernel
theorem d_BF_nearestSide_8 : decode prog_1_method_13_code 8 = .ok (.invokestatic 146, 3) := by decide +kernel
theorem d_BF_nearestSide_11 : decode prog_1_method_13_code 11 = .ok (.ireturn, 1) := by decide +kernel
theorem d_BF_isDetail_0 : decode prog_1_method_14_code 0 = .ok (.iload_n 0, 1) := by decide +kernel
theorem d_BF_isDetail_1 : decode prog_1_method_14_code 1 = .ok (.ifCond .lt 12, 3) := by decide +kernel
theorem d_BF_isDetail_4 : decode prog_1_method_14_code 4 = .ok (.iload_n 0, 1) := by decide +kernel
theorem d_BF_isDetail_5 : decode prog_1_method_14_code 5 = .ok (.iconst 5, 1) := by decide +kernel
theorem d_BF_isDetail_6 : decode prog_1_method_14_code 6 = .ok (.if_icmp .gt 7, 3) := by decide +kernel
theorem d_BF_isDetail_9 : decode prog_1_method_14_code 9 = .ok (.iconst 1, 1) := by decide +kernel
theorem d_BF_isDetail_10 : decode prog_1_method_14_code 10 = .ok (.goto 4, 3) := by decide +kernel
theorem d_BF_isDetail_13 : decode prog_1_method_14_code 13 = .ok (.iconst 0, 1) := by decide +kernel
theorem d_BF_isDetail_14 : decode prog_1_method_14_code 14 = .ok (.ireturn, 1) := by decide +kernel
theorem d_BF_addTo_0 : decode prog_1_method_15_code 0 = .ok (.aload_n 0, 1) := by decide +kernel
theorem d_BF_addTo_1 : decode prog_1_method_15_code 1 = .ok (.iload_n 2, 1) := by decide +kernel
theorem d_BF_addTo_2 : decode prog_1_method_15_code 2 = .ok (.iload_n 3, 1) := by decide +kernel
theorem d_BF_addTo_3 : decode prog_1_method_15_code 3 = .ok (.iload 4, 2) := by decide +kernel
theorem d_BF_addTo_5 : decode prog_1_method_15_code 5 = .ok (.iload 5, 2) := by decide +kernel
theorem d_BF_addTo_7 : decode prog_1_method_15_code 7 = .ok (.invokevirtual 149, 3) := by decide +kernel
theorem d_BF_addTo_10 : decode prog_1_method_15_code 10 = .ok (.ifCond .eq 20, 3) := by decide +kernel
theorem d_BF_addTo_13 : decode prog_1_method_15_code 13 = .ok (.aload_n 1, 1) := by decide +kernel
theorem d_BF_addTo_14 : decode prog_1_method_15_code 14 = .ok (.iload_n 2, 1) := by decide +kernel
theorem d_BF_addTo_15 : decode prog_1_method_15_code 15 = .ok (.iload_n 3, 1) := by decide +kernel
theorem d_BF_addTo_16 : decode prog_1_method_15_code 16 = .ok (.iload_n 2, 1) := by decide +kernel
theorem d_BF_addTo_17 : decode prog_1_method_15_code 17 = .ok (.iload 4, 2) := by decide +kernel
theorem d_BF_addTo_19 : decode prog_1_method_15_code 19 = .ok (.iadd, 1) := by decide +kernel
theorem d_BF_addTo_20 : decode prog_1_method_15_code 20 = .ok (.iload_n 3, 1) := by decide +kernel
theorem d_BF_addTo_21 : decode prog_1_method_15_code 21 = .ok (.iload 5, 2) := by decide +kernel
theorem d_BF_addTo_23 : decode prog_1_method_15_code 23 = .ok (.iadd, 1) := by decide +kernel
theorem d_BF_addTo_24 : decode prog_1_method_15_code 24 = .ok (.invokevirtual 153, 3) := by decide +kernel
theorem d_BF_addTo_27 : decode prog_1_method_15_code 27 = .ok (.goto 5, 3) := by decide +kernel
theorem d_BF_addTo_30 : decode prog_1_method_15_code 30 = .ok (.bipush (-12), 2) := by decide +kernel
theorem d_BF_addTo_32 : decode prog_1_method_15_code 32 = .ok (.ireturn, 1) := by decide +kernel
theorem d_BF_liesOnSheet_0 : decode prog_1_method_16_code 0 = .ok (.iload_n 3, 1) := by decide +kernel
theorem d_BF_liesOnSheet_1 : decode prog_1_method_16_code 1 = .ok (.iconst 1, 1) := by decide +kernel
theorem d_BF_liesOnSheet_2 : decode prog_1_method_16_code 2 = .ok (.if_icmp .lt 42, 3) := by decide +kernel
theorem d_BF_liesOnSheet_5 : decode prog_1_method_16_code 5 = .ok (.iload 4, 2) := by decide +kernel
theorem d_BF_liesOnSheet_7 : decode prog_1_method_16_code 7 = .ok (.iconst 1, 1) := by decide +kernel
theorem d_BF_liesOnSheet_8 : decode prog_1_method_16_code 8 = .ok (.if_icmp .lt 36, 3) := by decide +kernel
theorem d_BF_liesOnSheet_11 : decode prog_1_method_16_code 11 = .ok (.iload_n 1, 1) := by decide +kernel
theorem d_BF_liesOnSheet_12 : decode prog_1_method_16_code 12 = .ok (.ifCond .lt 32, 3) := by decide +kernel
theorem d_BF_liesOnSheet_15 : decode prog_1_method_16_code 15 = .ok (.iload_n 1, 1) := by decide +kernel
theorem d_BF_liesOnSheet_16 : decode prog_1_method_16_code 16 = .ok (.aload_n 0, 1) := by decide +kernel
theorem d_BF_liesOnSheet_17 : decode prog_1_method_16_code 17 = .ok (.getfield 65, 3) := by decide +kernel
theorem d_BF_liesOnSheet_20 : decode prog_1_method_16_code 20 = .ok (.iload_n 3, 1) := by decide +kernel
theorem d_BF_liesOnSheet_21 : decode prog_1_method_16_code 21 = .ok (.isub, 1) := by decide +kernel
theorem d_BF_liesOnSheet_22 : decode prog_1_method_16_code 22 = .ok (.if_icmp .gt 22, 3) := by decide +kernel
theorem d_BF_liesOnSheet_25 : decode prog_1_method_16_code 25 = .ok (.iload_n 2, 1) := by decide +kernel
theorem d_BF_liesOnSheet_26 : decode prog_1_method_16_code 26 = .ok (.ifCond .lt 18, 3) := by decide +kernel
theorem d_BF_liesOnSheet_29 : decode prog_1_method_16_code 29 = .ok (.iload_n 2, 1) := by decide +kernel
theorem d_BF_liesOnSheet_30 : decode prog_1_method_16_code 30 = .ok (.aload_n 0, 1) := by decide +kernel
theorem d_BF_liesOnSheet_31 : decode prog_1_method_16_code 31 = .ok (.getfield 69, 3) := by decide +kernel
theorem d_BF_liesOnSheet_34 : decode prog_1_method_16_code 34 = .ok (.iload 4, 2) := by decide +kernel
theorem d_BF_liesOnSheet_36 : decode prog_1_method_16_code 36 = .ok (.isub, 1) := by decide +kernel
theorem d_BF_liesOnSheet_37 : decode prog_1_method_16_code 37 = .ok (.if_icmp .gt 7, 3) := by decide +kernel
theorem d_BF_liesOnSheet_40 : decode prog_1_method_16_code 40 = .ok (.iconst 1, 1) := by decide +kernel
theorem d_BF_liesOnSheet_41 : decode prog_1_method_16_code 41 = .ok (.goto 4, 3) := by decide +kernel
theorem d_BF_liesOnSheet_44 : decode prog_1_method_16_code 44 = .ok (.iconst 0, 1) := by decide +kernel
theorem d_BF_liesOnSheet_45 : decode prog_1_method_16_code 45 = .ok (.ireturn, 1) := by decide +kernel
theorem d_BF_joinBoxes_0 : decode prog_1_method_17_code 0 = .ok (.aload_n 1, 1) := by decide +kernel
theorem d_BF_joinBoxes_1 : decode prog_1_method_17_code 1 = .ok (.aload_n 0, 1) := by decide +kernel
theorem d_BF_joinBoxes_2 : decode prog_1_method_17_code 2 = .ok (.getfield 14, 3) := by decide +kernel
theorem d_BF_joinBoxes_5 : decode prog_1_method_17_code 5 = .ok (.getfield 110, 3) := by decide +kernel
theorem d_BF_joinBoxes_8 : decode prog_1_method_17_code 8 = .ok (.invokevirtual 157, 3) := by decide +kernel
theorem d_BF_joinBoxes_11 : decode prog_1_method_17_code 11 = .ok (.iconst 0, 1) := by decide +kernel
theorem d_BF_joinBoxes_12 : decode prog_1_method_17_code 12 = .ok (.istore_n 3, 1) := by decide +kernel
theorem d_BF_joinBoxes_13 : decode prog_1_method_17_code 13 = .ok (.iload_n 3, 1) := by decide +kernel
theorem d_BF_joinBoxes_14 : decode prog_1_method_17_code 14 = .ok (.aload_n 0, 1) := by decide +kernel
theorem d_BF_joinBoxes_15 : decode prog_1_method_17_code 15 = .ok (.getfield 14, 3) := by decide +kernel
theorem d_BF_joinBoxes_18 : decode prog_1_method_17_code 18 = .ok (.getfield 110, 3) := by decide +kernel
theorem d_BF_joinBoxes_21 : decode prog_1_method_17_code 21 = .ok (.if_icmp .ge 53, 3) := by decide +kernel
theorem d_BF_joinBoxes_24 : decode prog_1_method_17_code 24 = .ok (.iload_n 3, 1) := by decide +kernel
theorem d_BF_joinBoxes_25 : decode prog_1_method_17_code 25 = .ok (.iconst 1, 1) := by decide +kernel
theorem d_BF_joinBoxes_26 : decode prog_1_method_17_code 26 = .ok (.iadd, 1) := by decide +kernel
theorem d_BF_joinBoxes_27 : decode prog_1_method_17_code 27 = .ok (.istore 4, 2) := by decide +kernel
theorem d_BF_joinBoxes_29 : decode prog_1_method_17_code 29 = .ok (.iload 4, 2) := by decide +kernel
theorem d_BF_joinBoxes_31 : decode prog_1_method_17_code 31 = .ok (.aload_n 0, 1) := by decide +kernel
theorem d_BF_joinBoxes_32 : decode prog_1_method_17_code 32 = .ok (.getfield 14, 3) := by decide +kernel
theorem d_BF_joinBoxes_35 : decode prog_1_method_17_code 35 = .ok (.getfield 110, 3) := by decide +kernel
theorem d_BF_joinBoxes_38 : decode prog_1_method_17_code 38 = .ok (.if_icmp .ge 30, 3) := by decide +kernel
theorem d_BF_joinBoxes_41 : decode prog_1_method_17_code 41 = .ok (.aload_n 0, 1) := by decide +kernel
theorem d_BF_joinBoxes_42 : decode prog_1_method_17_code 42 = .ok (.getfield 14, 3) := by decide +kernel
theorem d_BF_joinBoxes_45 : decode prog_1_method_17_code 45 = .ok (.iload_n 3, 1) := by decide +kernel
theorem d_BF_joinBoxes_46 : decode prog_1_method_17_code 46 = .ok (.iload 4, 2) := by decide +kernel
theorem d_BF_joinBoxes_48 : decode prog_1_method_17_code 48 = .ok (.iload_n 2, 1) := by decide +kernel
theorem d_BF_joinBoxes_49 : decode prog_1_method_17_code 49 = .ok (.invokevirtual 160, 3) := by decide +kernel
theorem d_BF_joinBoxes_52 : decode prog_1_method_17_code 52 = .ok (.ifCond .eq 10, 3) := by decide +kernel
theorem d_BF_joinBoxes_55 : decode prog_1_method_17_code 55 = .ok (.aload_n 1, 1) := by decide +kernel
theorem d_BF_joinBoxes_56 : decode prog_1_method_17_code 56 = .ok (.iload_n 3, 1) := by decide +kernel
theorem d_BF_joinBoxes_57 : decode prog_1_method_17_code 57 = .ok (.iload 4, 2) := by decide +kernel
theorem d_BF_joinBoxes_59 : decode prog_1_method_17_code 59 = .ok (.invokevirtual 164, 3) := by decide +kernel
theorem d_BF_joinBoxes_62 : decode prog_1_method_17_code 62 = .ok (.iinc 4 1, 3) := by decide +kernel
theorem d_BF_joinBoxes_65 : decode prog_1_method_17_code 65 = .ok (.goto (-36), 3) := by decide +kernel
theorem d_BF_joinBoxes_68 : decode prog_1_method_17_code 68 = .ok (.iinc 3 1, 3) := by decide +kernel
theorem d_BF_joinBoxes_71 : decode prog_1_method_17_code 71 = .ok (.goto (-58), 3) := by decide +kernel
theorem d_BF_joinBoxes_74 : decode prog_1_method_17_code 74 = .ok (.return_, 1) := by decide +kernel
theorem d_BF_joinLines_0 : decode prog_1_method_18_code 0 = .ok (.aload_n 0, 1) := by decide +kernel
theorem d_BF_joinLines_1 : decode prog_1_method_18_code 1 = .ok (.getfield 31, 3) := by decide +kernel
theorem d_BF_joinLines_4 : decode prog_1_method_18_code 4 = .ok (.aload_n 0, 1) := by decide +kernel
theorem d_BF_joinLines_5 : decode prog_1_method_18_code 5 = .ok (.getfield 37, 3) := by decide +kernel
theorem d_BF_joinLines_8 : decode prog_1_method_18_code 8 = .ok (.invokevirtual 96, 3) := by decide +kernel
theorem d_BF_joinLines_11 : decode prog_1_method_18_code 11 = .ok (.invokevirtual 157, 3) := by decide +kernel
theorem d_BF_joinLines_14 : decode prog_1_method_18_code 14 = .ok (.iconst 0, 1) := by decide +kernel
theorem d_BF_joinLines_15 : decode prog_1_method_18_code 15 = .ok (.istore_n 1, 1) := by decide +kernel
theorem d_BF_joinLines_16 : decode prog_1_method_18_code 16 = .ok (.iload_n 1, 1) := by decide +kernel
theorem d_BF_joinLines_17 : decode prog_1_method_18_code 17 = .ok (.aload_n 0, 1) := by decide +kernel
theorem d_BF_joinLines_18 : decode prog_1_method_18_code 18 = .ok (.getfield 37, 3) := by decide +kernel
theorem d_BF_joinLines_21 : decode prog_1_method_18_code 21 = .ok (.invokevirtual 96, 3) := by decide +kernel
theorem d_BF_joinLines_24 : decode prog_1_method_18_code 24 = .ok (.if_icmp .ge 58, 3) := by decide +kernel
theorem d_BF_joinLines_27 : decode prog_1_method_18_code 27 = .ok (.iload_n 1, 1) := by decide +kernel
theorem d_BF_joinLines_28 : decode prog_1_method_18_code 28 = .ok (.iconst 1, 1) := by decide +kernel
theorem d_BF_joinLines_29 : decode prog_1_method_18_code 29 = .ok (.iadd, 1) := by decide +kernel
theorem d_BF_joinLines_30 : decode prog_1_method_18_code 30 = .ok (.istore_n 2, 1) := by decide +kernel
theorem d_BF_joinLines_31 : decode prog_1_method_18_code 31 = .ok (.iload_n 2, 1) := by decide +kernel
theorem d_BF_joinLines_32 : decode prog_1_method_18_code 32 = .ok (.aload_n 0, 1) := by decide +kernel
theorem d_BF_joinLines_33 : decode prog_1_method_18_code 33 = .ok (.getfield 37, 3) := by decide +kernel
theorem d_BF_joinLines_36 : decode prog_1_method_18_code 36 = .ok (.invokevirtual 96, 3) := by decide +kernel
theorem d_BF_joinLines_39 : decode prog_1_method_18_code 39 = .ok (.if_icmp .ge 37, 3) := by decide +kernel
theorem d_BF_joinLines_42 : decode prog_1_method_18_code 42 = .ok (.aload_n 0, 1) := by decide +kernel
theorem d_BF_joinLines_43 : decode prog_1_method_18_code 43 = .ok (.getfield 37, 3) := by decide +kernel
theorem d_BF_joinLines_46 : decode prog_1_method_18_code 46 = .ok (.getfield 90, 3) := by decide +kernel
theorem d_BF_joinLines_49 : decode prog_1_method_18_code 49 = .ok (.iload_n 1, 1) := by decide +kernel
theorem d_BF_joinLines_50 : decode prog_1_method_18_code 50 = .ok (.iload_n 2, 1) := by decide +kernel
theorem d_BF_joinLines_51 : decode prog_1_method_18_code 51 = .ok (.aload_n 0, 1) := by decide +kernel
theorem d_BF_joinLines_52 : decode prog_1_method_18_code 52 = .ok (.getfield 57, 3) := by decide +kernel
theorem d_BF_joinLines_55 : decode prog_1_method_18_code 55 = .ok (.invokevirtual 168, 3) := by decide +kernel
theorem d_BF_joinLines_58 : decode prog_1_method_18_code 58 = .ok (.ifCond .eq 12, 3) := by decide +kernel
theorem d_BF_joinLines_61 : decode prog_1_method_18_code 61 = .ok (.aload_n 0, 1) := by decide +kernel
theorem d_BF_joinLines_62 : decode prog_1_method_18_code 62 = .ok (.getfield 31, 3) := by decide +kernel
theorem d_BF_joinLines_65 : decode prog_1_method_18_code 65 = .ok (.iload_n 1, 1) := by decide +kernel
theorem d_BF_joinLines_66 : decode prog_1_method_18_code 66 = .ok (.iload_n 2, 1) := by decide +kernel
theorem d_BF_joinLines_67 : decode prog_1_method_18_code 67 = .ok (.invokevirtual 164, 3) := by decide +kernel
theorem d_BF_joinLines_70 : decode prog_1_method_18_code 70 = .ok (.iinc 2 1, 3) := by decide +kernel
theorem d_BF_joinLines_73 : decode prog_1_method_18_code 73 = .ok (.goto (-42), 3) := by decide +kernel
theorem d_BF_joinLines_76 : decode prog_1_method_18_code 76 = .ok (.iinc 1 1, 3) := by decide +kernel
theorem d_BF_joinLines_79 : decode prog_1_method_18_code 79 = .ok (.goto (-63), 3) := by decide +kernel
theorem d_BF_joinLines_82 : decode prog_1_method_18_code 82 = .ok (.return_, 1) := by decide +kernel
theorem d_BF_groupOfBox_0 : decode prog_1_method_19_code 0 = .ok (.aload_n 0, 1) := by decide +kernel
theorem d_BF_groupOfBox_1 : decode prog_1_method_19_code 1 = .ok (.getfield 41, 3) := by decide +kernel
theorem d_BF_groupOfBox_4 : decode prog_1_method_19_code 4 = .ok (.getfield 171, 3) := by decide +kernel
theorem d_BF_groupOfBox_7 : decode prog_1_method_19_code 7 = .ok (.aload_n 0, 1) := by decide +kernel
theorem d_BF_groupOfBox_8 : decode prog_1_method_19_code 8 = .ok (.getfield 37, 3) := by decide +kernel
theorem d_BF_groupOfBox_11 : decode prog_1_method_19_code 11 = .ok (.getfield 171, 3) := by decide +kernel
theorem d_BF_groupOfBox_14 : decode prog_1_method_19_code 14 = .ok (.iload_n 1, 1) := by decide +kernel
theorem d_BF_groupOfBox_15 : decode prog_1_method_19_code 15 = .ok (.iaload, 1) := by decide +kernel
theorem d_BF_groupOfBox_16 : decode prog_1_method_19_code 16 = .ok (.iaload, 1) := by decide +kernel
theorem d_BF_groupOfBox_17 : decode prog_1_method_19_code 17 = .ok (.ireturn, 1) := by decide +kernel
theorem d_BF_measureBoxesOfBlocks_0 : decode prog_1_method_20_code 0 = .ok (.iconst 0, 1) := by decide +kernel
theorem d_BF_measureBoxesOfBlocks_1 : decode prog_1_method_20_code 1 = .ok (.istore_n 1, 1) := by decide +kernel
theorem d_BF_measureBoxesOfBlocks_2 : decode prog_1_method_20_code 2 = .ok (.iload_n 1, 1) := by decide +kernel
theorem d_BF_measureBoxesOfBlocks_3 : decode prog_1_method_20_code 3 = .ok (.aload_n 0, 1) := by decide +kernel
theorem d_BF_measureBoxesOfBlocks_4 : decode prog_1_method_20_code 4 = .ok (.getfield 41, 3) := by decide +kernel
theorem d_BF_measureBoxesOfBlocks_7 : decode prog_1_method_20_code 7 = .ok (.invokevirtual 96, 3) := by decide +kernel
theorem d_BF_measureBoxesOfBlocks_10 : decode prog_1_method_20_code 10 = .ok (.if_icmp .ge 32, 3) := by decide +kernel
theorem d_BF_measureBoxesOfBlocks_13 : decode prog_1_method_20_code 13 = .ok (.aload_n 0, 1) := by decide +kernel
theorem d_BF_measureBoxesOfBlocks_14 : decode prog_1_method_20_code 14 = .ok (.getfield 44, 3) := by decide +kernel
theorem d_BF_measureBoxesOfBlocks_17 : decode prog_1_method_20_code 17 = .ok (.iload_n 1, 1) := by decide +kernel
theorem d_BF_measureBoxesOfBlocks_18 : decode prog_1_method_20_code 18 = .ok (.iconst 0, 1) := by decide +kernel
theorem d_BF_measureBoxesOfBlocks_19 : decode prog_1_method_20_code 19 = .ok (.iastore, 1) := by decide +kernel
theorem d_BF_measureBoxesOfBlocks_20 : decode prog_1_method_20_code 20 = .ok (.aload_n 0, 1) := by decide +kernel
theorem d_BF_measureBoxesOfBlocks_21 : decode prog_1_method_20_code 21 = .ok (.getfield 48, 3) := by decide +kernel
theorem d_BF_measureBoxesOfBlocks_24 : decode prog_1_method_20_code 24 = .ok (.iload_n 1, 1) := by decide +kernel
theorem d_BF_measureBoxesOfBlocks_25 : decode prog_1_method_20_code 25 = .ok (.iconst 0, 1) := by decide +kernel
theorem d_BF_measureBoxesOfBlocks_26 : decode prog_1_method_20_code 26 = .ok (.iastore, 1) := by decide +kernel
theorem d_BF_measureBoxesOfBlocks_27 : decode prog_1_method_20_code 27 = .ok (.aload_n 0, 1) := by decide +kernel
theorem d_BF_measureBoxesOfBlocks_28 : decode prog_1_method_20_code 28 = .ok (.getfield 51, 3) := by decide +kernel
theorem d_BF_measureBoxesOfBlocks_31 : decode prog_1_method_20_code 31 = .ok (.iload_n 1, 1) := by decide +kernel
theorem d_BF_measureBoxesOfBlocks_32 : decode prog_1_method_20_code 32 = .ok (.sipush 4096, 3) := by decide +kernel
theorem d_BF_measureBoxesOfBlocks_35 : decode prog_1_method_20_code 35 = .ok (.iastore, 1) := by decide +kernel
theorem d_BF_measureBoxesOfBlocks_36 : decode prog_1_method_20_code 36 = .ok (.iinc 1 1, 3) := by decide +kernel
theorem d_BF_measureBoxesOfBlocks_39 : decode prog_1_method_20_code 39 = .ok (.goto (-37), 3) := by decide +kernel
theorem d_BF_measureBoxesOfBlocks_42 : decode prog_1_method_20_code 42 = .ok (.iconst 0, 1) := by decide +kernel
theorem d_BF_measureBoxesOfBlocks_43 : decode prog_1_method_20_code 43 = .ok (.istore_n 1, 1) := by decide +kernel
theorem d_BF_measureBoxesOfBlocks_44 : decode prog_1_method_20_code 44 = .ok (.iload_n 1, 1) := by decide +kernel
theorem d_BF_measureBoxesOfBlocks_45 : decode prog_1_method_20_code 45 = .ok (.aload_n 0, 1) := by decide +kernel
theorem d_BF_measureBoxesOfBlocks_46 : decode prog_1_method_20_code 46 = .ok (.getfield 14, 3) := by decide +kernel
theorem d_BF_measureBoxesOfBlocks_49 : decode prog_1_method_20_code 49 = .ok (.getfield 110, 3) := by decide +kernel
theorem d_BF_measureBoxesOfBlocks_52 : decode prog_1_method_20_code 52 = .ok (.if_icmp .ge 70, 3) := by decide +kernel
theorem d_BF_measureBoxesOfBlocks_55 : decode prog_1_method_20_code 55 = .ok (.aload_n 0, 1) := by decide +kernel
theorem d_BF_measureBoxesOfBlocks_56 : decode prog_1_method_20_code 56 = .ok (.iload_n 1, 1) := by decide +kernel
theorem d_BF_measureBoxesOfBlocks_57 : decode prog_1_method_20_code 57 = .ok (.invokevirtual 114, 3) := by decide +kernel
theorem d_BF_measureBoxesOfBlocks_60 : decode prog_1_method_20_code 60 = .ok (.istore_n 2, 1) := by decide +kernel
theorem d_BF_measureBoxesOfBlocks_61 : decode prog_1_method_20_code 61 = .ok (.aload_n 0, 1) := by decide +kernel
theorem d_BF_measureBoxesOfBlocks_62 : decode prog_1_method_20_code 62 = .ok (.getfield 14, 3) := by decide +kernel
theorem d_BF_measureBoxesOfBlocks_65 : decode prog_1_method_20_code 65 = .ok (.iload_n 1, 1) := by decide +kernel
theorem d_BF_measureBoxesOfBlocks_66 : decode prog_1_method_20_code 66 = .ok (.aload_n 0, 1) := by decide +kernel
theorem d_BF_measureBoxesOfBlocks_67 : decode prog_1_method_20_code 67 = .ok (.getfield 57, 3) := by decide +kernel
theorem d_BF_measureBoxesOfBlocks_70 : decode prog_1_method_20_code 70 = .ok (.invokevirtual 174, 3) := by decide +kernel
theorem d_BF_measureBoxesOfBlocks_73 : decode prog_1_method_20_code 73 = .ok (.istore_n 3, 1) := by decide +kernel
theorem d_BF_measureBoxesOfBlocks_74 : decode prog_1_method_20_code 74 = .ok (.aload_n 0, 1) := by decide +kernel
theorem d_BF_measureBoxesOfBlocks_75 : decode prog_1_method_20_code 75 = .ok (.getfield 44, 3) := by decide +kernel
theorem d_BF_measureBoxesOfBlocks_78 : decode prog_1_method_20_code 78 = .ok (.iload_n 2, 1) := by decide +kernel
theorem d_BF_measureBoxesOfBlocks_79 : decode prog_1_method_20_code 79 = .ok (.dup2, 1) := by decide +kernel
theorem d_BF_measureBoxesOfBlocks_80 : decode prog_1_method_20_code 80 = .ok (.iaload, 1) := by decide +kernel
theorem d_BF_measureBoxesOfBlocks_81 : decode prog_1_method_20_code 81 = .ok (.iconst 1, 1) := by decide +kernel
theorem d_BF_measureBoxesOfBlocks_82 : decode prog_1_method_20_code 82 = .ok (.iadd, 1) := by decide +kernel
theorem d_BF_measureBoxesOfBlocks_83 : decode prog_1_method_20_code 83 = .ok (.iastore, 1) := by decide +kernel
theorem d_BF_measureBoxesOfBlocks_84 : decode prog_1_method_20_code 84 = .ok (.aload_n 0, 1) := by decide +kernel
theorem d_BF_measureBoxesOfBlocks_85 : decode prog_1_method_20_code 85 = .ok (.getfield 48, 3) := by decide +kernel
theorem d_BF_measureBoxesOfBlocks_88 : decode prog_1_method_20_code 88 = .ok (.iload_n 2, 1) := by decide +kernel
theorem d_BF_measureBoxesOfBlocks_89 : decode prog_1_method_20_code 89 = .ok (.aload_n 0, 1) := by decide +kernel
theorem d_BF_measureBoxesOfBlocks_90 : decode prog_1_method_20_code 90 = .ok (.getfield 48, 3) := by decide +kernel
theorem d_BF_measureBoxesOfBlocks_93 : decode prog_1_method_20_code 93 = .ok (.iload_n 2, 1) := by decide +kernel
theorem d_BF_measureBoxesOfBlocks_94 : decode prog_1_method_20_code 94 = .ok (.iaload, 1) := by decide +kernel
theorem d_BF_measureBoxesOfBlocks_95 : decode prog_1_method_20_code 95 = .ok (.iload_n 3, 1) := by decide +kernel
theorem d_BF_measureBoxesOfBlocks_96 : decode prog_1_method_20_code 96 = .ok (.invokestatic 146, 3) := by decide +kernel
theorem d_BF_measureBoxesOfBlocks_99 : decode prog_1_method_20_code 99 = .ok (.iastore, 1) := by decide +kernel
theorem d_BF_measureBoxesOfBlocks_100 : decode prog_1_method_20_code 100 = .ok (.aload_n 0, 1) := by decide +kernel
theorem d_BF_measureBoxesOfBlocks_101 : decode prog_1_method_20_code 101 = .ok (.getfield 51, 3) := by decide +kernel
theorem d_BF_measureBoxesOfBlocks_104 : decode prog_1_method_20_code 104 = .ok (.iload_n 2, 1) := by decide +kernel
theorem d_BF_measureBoxesOfBlocks_105 : decode prog_1_method_20_code 105 = .ok (.aload_n 0, 1) := by decide +kernel
theorem d_BF_measureBoxesOfBlocks_106 : decode prog_1_method_20_code 106 = .ok (.getfield 51, 3) := by decide +kernel
theorem d_BF_measureBoxesOfBlocks_109 : decode prog_1_method_20_code 109 = .ok (.iload_n 2, 1) := by decide +kernel
theorem d_BF_measureBoxesOfBlocks_110 : decode prog_1_method_20_code 110 = .ok (.iaload, 1) := by decide +kernel
theorem d_BF_measureBoxesOfBlocks_111 : decode prog_1_method_20_code 111 = .ok (.iload_n 3, 1) := by decide +kernel
theorem d_BF_measureBoxesOfBlocks_112 : decode prog_1_method_20_code 112 = .ok (.invokestatic 141, 3) := by decide +kernel
theorem d_BF_measureBoxesOfBlocks_115 : decode prog_1_method_20_code 115 = .ok (.iastore, 1) := by decide +kernel
theorem d_BF_measureBoxesOfBlocks_116 : decode prog_1_method_20_code 116 = .ok (.iinc 1 1, 3) := by decide +kernel
theorem d_BF_measureBoxesOfBlocks_119 : decode prog_1_method_20_code 119 = .ok (.goto (-75), 3) := by decide +kernel
theorem d_BF_measureBoxesOfBlocks_122 : decode prog_1_method_20_code 122 = .ok (.return_, 1) := by decide +kernel
theorem d_BF_judge_0 : decode prog_1_method_21_code 0 = .ok (.aload_n 0, 1) := by decide +kernel
theorem d_BF_judge_1 : decode prog_1_method_21_code 1 = .ok (.iload_n 1, 1) := by decide +kernel
theorem d_BF_judge_2 : decode prog_1_method_21_code 2 = .ok (.invokevirtual 178, 3) := by decide +kernel
theorem d_BF_judge_5 : decode prog_1_method_21_code 5 = .ok (.istore_n 2, 1) := by decide +kernel
theorem d_BF_judge_6 : decode prog_1_method_21_code 6 = .ok (.iload_n 2, 1) := by decide +kernel
theorem d_BF_judge_7 : decode prog_1_method_21_code 7 = .ok (.ifCond .ne 21, 3) := by decide +kernel
theorem d_BF_judge_10 : decode prog_1_method_21_code 10 = .ok (.aload_n 0, 1) := by decide +kernel
theorem d_BF_judge_11 : decode prog_1_method_21_code 11 = .ok (.iload_n 1, 1) := by decide +kernel
theorem d_BF_judge_12 : decode prog_1_method_21_code 12 = .ok (.invokevirtual 181, 3) := by decide +kernel
theorem d_BF_judge_15 : decode prog_1_method_21_code 15 = .ok (.ifCond .ne 11, 3) := by decide +kernel
theorem d_BF_judge_18 : decode prog_1_method_21_code 18 = .ok (.aload_n 0, 1) := by decide +kernel
theorem d_BF_judge_19 : decode prog_1_method_21_code 19 = .ok (.iload_n 1, 1) := by decide +kernel
theorem d_BF_judge_20 : decode prog_1_method_21_code 20 = .ok (.invokevirtual 184, 3) := by decide +kernel
theorem d_BF_judge_23 : decode prog_1_method_21_code 23 = .ok (.ifCond .eq 5, 3) := by decide +kernel
theorem d_BF_judge_26 : decode prog_1_method_21_code 26 = .ok (.iconst 0, 1) := by decide +kernel
theorem d_BF_judge_27 : decode prog_1_method_21_code 27 = .ok (.ireturn, 1) := by decide +kernel
theorem d_BF_judge_28 : decode prog_1_method_21_code 28 = .ok (.aload_n 0, 1) := by decide +kernel
theorem d_BF_judge_29 : decode prog_1_method_21_code 29 = .ok (.getfield 41, 3) := by decide +kernel
theorem d_BF_judge_32 : decode prog_1_method_21_code 32 = .ok (.getfield 127, 3) := by decide +kernel
theorem d_BF_judge_35 : decode prog_1_method_21_code 35 = .ok (.iload_n 1, 1) := by decide +kernel
theorem d_BF_judge_36 : decode prog_1_method_21_code 36 = .ok (.iaload, 1) := by decide +kernel
theorem d_BF_judge_37 : decode prog_1_method_21_code 37 = .ok (.iconst 2, 1) := by decide +kernel
theorem d_BF_judge_38 : decode prog_1_method_21_code 38 = .ok (.if_icmp .lt 22, 3) := by decide +kernel
theorem d_BF_judge_41 : decode prog_1_method_21_code 41 = .ok (.aload_n 0, 1) := by decide +kernel
theorem d_BF_judge_42 : decode prog_1_method_21_code 42 = .ok (.getfield 41, 3) := by decide +kernel
theorem d_BF_judge_45 : decode prog_1_method_21_code 45 = .ok (.getfield 127, 3) := by decide +kernel
theorem d_BF_judge_48 : decode prog_1_method_21_code 48 = .ok (.iload_n 1, 1) := by decide +kernel
theorem d_BF_judge_49 : decode prog_1_method_21_code 49 = .ok (.iaload, 1) := by decide +kernel
theorem d_BF_judge_50 : decode prog_1_method_21_code 50 = .ok (.bipush 6, 2) := by decide +kernel
theorem d_BF_judge_52 : decode prog_1_method_21_code 52 = .ok (.if_icmp .gt 8, 3) := by decide +kernel
theorem d_BF_judge_55 : decode prog_1_method_21_code 55 = .ok (.bipush 30, 2) := by decide +kernel
theorem d_BF_judge_57 : decode prog_1_method_21_code 57 = .ok (.goto 5, 3) := by decide +kernel
theorem d_BF_judge_60 : decode prog_1_method_21_code 60 = .ok (.bipush 10, 2) := by decide +kernel
theorem d_BF_judge_62 : decode prog_1_method_21_code 62 = .ok (.istore_n 3, 1) := by decide +kernel
theorem d_BF_judge_63 : decode prog_1_method_21_code 63 = .ok (.aload_n 0, 1) := by decide +kernel
theorem d_BF_judge_64 : decode prog_1_method_21_code 64 = .ok (.getfield 41, 3) := by decide +kernel
theorem d_BF_judge_67 : decode prog_1_method_21_code 67 = .ok (.getfield 90, 3) := by decide +kernel
theorem d_BF_judge_70 : decode prog_1_method_21_code 70 = .ok (.getfield 187, 3) := by decide +kernel
theorem d_BF_judge_73 : decode prog_1_method_21_code 73 = .ok (.iload_n 1, 1) := by decide +kernel
theorem d_BF_judge_74 : decode prog_1_method_21_code 74 = .ok (.iaload, 1) := by decide +kernel
theorem d_BF_judge_75 : decode prog_1_method_21_code 75 = .ok (.aload_n 0, 1) := by decide +kernel
theorem d_BF_judge_76 : decode prog_1_method_21_code 76 = .ok (.getfield 41, 3) := by decide +kernel
theorem d_BF_judge_79 : decode prog_1_method_21_code 79 = .ok (.getfield 90, 3) := by decide +kernel
theorem d_BF_judge_82 : decode prog_1_method_21_code 82 = .ok (.getfield 190, 3) := by decide +kernel
theorem d_BF_judge_85 : decode prog_1_method_21_code 85 = .ok (.iload_n 1, 1) := by decide +kernel
theorem d_BF_judge_86 : decode prog_1_method_21_code 86 = .ok (.iaload, 1) := by decide +kernel
theorem d_BF_judge_87 : decode prog_1_method_21_code 87 = .ok (.iadd, 1) := by decide +kernel
theorem d_BF_judge_88 : decode prog_1_method_21_code 88 = .ok (.aload_n 0, 1) := by decide +kernel
theorem d_BF_judge_89 : decode prog_1_method_21_code 89 = .ok (.getfield 65, 3) := by decide +kernel
theorem d_BF_judge_92 : decode prog_1_method_21_code 92 = .ok (.if_icmp .lt 6, 3) := by decide +kernel
theorem d_BF_judge_95 : decode prog_1_method_21_code 95 = .ok (.iinc 3 15, 3) := by decide +kernel
theorem d_BF_judge_98 : decode prog_1_method_21_code 98 = .ok (.aload_n 0, 1) := by decide +kernel
theorem d_BF_judge_99 : decode prog_1_method_21_code 99 = .ok (.getfield 41, 3) := by decide +kernel
theorem d_BF_judge_102 : decode prog_1_method_21_code 102 = .ok (.getfield 90, 3) := by decide +kernel
theorem d_BF_judge_105 : decode prog_1_method_21_code 105 = .ok (.getfield 193, 3) := by decide +kernel
theorem d_BF_judge_108 : decode prog_1_method_21_code 108 = .ok (.iload_n 1, 1) := by decide +kernel
theorem d_BF_judge_109 : decode prog_1_method_21_code 109 = .ok (.iaload, 1) := by decide +kernel
theorem d_BF_judge_110 : decode prog_1_method_21_code 110 = .ok (.aload_n 0, 1) := by decide +kernel
theorem d_BF_judge_111 : decode prog_1_method_21_code 111 = .ok (.getfield 41, 3) := by decide +kernel
theorem d_BF_judge_114 : decode prog_1_method_21_code 114 = .ok (.getfield 90, 3) := by decide +kernel
theorem d_BF_judge_117 : decode prog_1_method_21_code 117 = .ok (.getfield 196, 3) := by decide +kernel
theorem d_BF_judge_120 : decode prog_1_method_21_code 120 = .ok (.iload_n 1, 1) := by decide +kernel
theorem d_BF_judge_121 : decode prog_1_method_21_code 121 = .ok (.iaload, 1) := by decide +kernel
theorem d_BF_judge_122 : decode prog_1_method_21_code 122 = .ok (.iadd, 1) := by decide +kernel
theorem d_BF_judge_123 : decode prog_1_method_21_code 123 = .ok (.aload_n 0, 1) := by decide +kernel
theorem d_BF_judge_124 : decode prog_1_method_21_code 124 = .ok (.getfield 69, 3) := by decide +kernel
theorem d_BF_judge_127 : decode prog_1_method_21_code 127 = .ok (.if_icmp .lt 6, 3) := by decide +kernel
theorem d_BF_judge_130 : decode prog_1_method_21_code 130 = .ok (.iinc 3 15, 3) := by decide +kernel
theorem d_BF_judge_133 : decode prog_1_method_21_code 133 = .ok (.iconst 2, 1) := by decide +kernel
theorem d_BF_judge_134 : decode prog_1_method_21_code 134 = .ok (.aload_n 0, 1) := by decide +kernel
theorem d_BF_judge_135 : decode prog_1_method_21_code 135 = .ok (.getfield 41, 3) := by decide +kernel
theorem d_BF_judge_138 : decode prog_1_method_21_code 138 = .ok (.getfield 90, 3) := by decide +kernel
theorem d_BF_judge_141 : decode prog_1_method_21_code 141 = .ok (.iload_n 1, 1) := by decide +kernel
theorem d_BF_judge_142 : decode prog_1_method_21_code 142 = .ok (.invokevirtual 199, 3) := by decide +kernel
theorem d_BF_judge_145 : decode prog_1_method_21_code 145 = .ok (.imul, 1) := by decide +kernel
theorem d_BF_judge_146 : decode prog_1_method_21_code 146 = .ok (.aload_n 0, 1) := by decide +kernel
theorem d_BF_judge_147 : decode prog_1_method_21_code 147 = .ok (.getfield 65, 3) := by decide +kernel
theorem d_BF_judge_150 : decode prog_1_method_21_code 150 = .ok (.aload_n 0, 1) := by decide +kernel
theorem d_BF_judge_151 : decode prog_1_method_21_code 151 = .ok (.getfield 69, 3) := by decide +kernel
theorem d_BF_judge_154 : decode prog_1_method_21_code 154 = .ok (.imul, 1) := by decide +kernel
theorem d_BF_judge_155 : decode prog_1_method_21_code 155 = .ok (.if_icmp .gt 6, 3) := by decide +kernel
theorem d_BF_judge_158 : decode prog_1_method_21_code 158 = .ok (.iinc 3 10, 3) := by decide +kernel
theorem d_BF_judge_161 : decode prog_1_method_21_code 161 = .ok (.iload_n 2, 1) := by decide +kernel
theorem d_BF_judge_162 : decode prog_1_method_21_code 162 = .ok (.ifCond .eq 10, 3) := by decide +kernel
theorem d_BF_judge_165 : decode prog_1_method_21_code 165 = .ok (.iload_n 3, 1) := by decide +kernel
theorem d_BF_judge_166 : decode prog_1_method_21_code 166 = .ok (.bipush 25, 2) := by decide +kernel
theorem d_BF_judge_168 : decode prog_1_method_21_code 168 = .ok (.iadd, 1) := by decide +kernel
theorem d_BF_judge_169 : decode prog_1_method_21_code 169 = .ok (.goto 4, 3) := by decide +kernel
theorem d_BF_judge_172 : decode prog_1_method_21_code 172 = .ok (.iload_n 3, 1) := by decide +kernel
theorem d_BF_judge_173 : decode prog_1_method_21_code 173 = .ok (.ireturn, 1) := by decide +kernel
theorem d_BF_isStamp_0 : decode prog_1_method_22_code 0 = .ok (.iconst 4, 1) := by decide +kernel
theorem d_BF_isStamp_1 : decode prog_1_method_22_code 1 = .ok (.aload_n 0, 1) := by decide +kernel
theorem d_BF_isStamp_2 : decode prog_1_method_22_code 2 = .ok (.getfield 41, 3) := by decide +kernel
theorem d_BF_isStamp_5 : decode prog_1_method_22_code 5 = .ok (.getfield 90, 3) := by decide +kernel
theorem d_BF_isStamp_8 : decode prog_1_method_22_code 8 = .ok (.getfield 187, 3) := by decide +kernel
theorem d_BF_isStamp_11 : decode prog_1_method_22_code 11 = .ok (.iload_n 1, 1) := by decide +kernel
theorem d_BF_isStamp_12 : decode prog_1_method_22_code 12 = .ok (.iaload, 1) := by decide +kernel
theorem d_BF_isStamp_13 : decode prog_1_method_22_code 13 = .ok (.imul, 1) := by decide +kernel
theorem d_BF_isStamp_14 : decode prog_1_method_22_code 14 = .ok (.iconst 3, 1) := by decide +kernel
theorem d_BF_isStamp_15 : decode prog_1_method_22_code 15 = .ok (.aload_n 0, 1) := by decide +kernel
theorem d_BF_isStamp_16 : decode prog_1_method_22_code 16 = .ok (.getfield 65, 3) := by decide +kernel
theorem d_BF_isStamp_19 : decode prog_1_method_22_code 19 = .ok (.imul, 1) := by decide +kernel
theorem d_BF_isStamp_20 : decode prog_1_method_22_code 20 = .ok (.if_icmp .lt 28, 3) := by decide +kernel
theorem d_BF_isStamp_23 : decode prog_1_method_22_code 23 = .ok (.iconst 3, 1) := by decide +kernel
theorem d_BF_isStamp_24 : decode prog_1_method_22_code 24 = .ok (.aload_n 0, 1) := by decide +kernel
theorem d_BF_isStamp_25 : decode prog_1_method_22_code 25 = .ok (.getfield 41, 3) := by decide +kernel
theorem d_BF_isStamp_28 : decode prog_1_method_22_code 28 = .ok (.getfield 90, 3) := by decide +kernel
theorem d_BF_isStamp_31 : decode prog_1_method_22_code 31 = .ok (.getfield 196, 3) := by decide +kernel
theorem d_BF_isStamp_34 : decode prog_1_method_22_code 34 = .ok (.iload_n 1, 1) := by decide +kernel
theorem d_BF_isStamp_35 : decode prog_1_method_22_code 35 = .ok (.iaload, 1) := by decide +kernel
theorem d_BF_isStamp_36 : decode prog_1_method_22_code 36 = .ok (.imul, 1) := by decide +kernel
theorem d_BF_isStamp_37 : decode prog_1_method_22_code 37 = .ok (.aload_n 0, 1) := by decide +kernel
theorem d_BF_isStamp_38 : decode prog_1_method_22_code 38 = .ok (.getfield 69, 3) := by decide +kernel
theorem d_BF_isStamp_41 : decode prog_1_method_22_code 41 = .ok (.if_icmp .gt 7, 3) := by decide +kernel
theorem d_BF_isStamp_44 : decode prog_1_method_22_code 44 = .ok (.iconst 1, 1) := by decide +kernel
theorem d_BF_isStamp_45 : decode prog_1_method_22_code 45 = .ok (.goto 4, 3) := by decide +kernel
theorem d_BF_isStamp_48 : decode prog_1_method_22_code 48 = .ok (.iconst 0, 1) := by decide +kernel
theorem d_BF_isStamp_49 : decode prog_1_method_22_code 49 = .ok (.ireturn, 1) := by decide +kernel
theorem d_BF_isSender_0 : decode prog_1_method_23_code 0 = .ok (.iconst 2, 1) := by decide +kernel
theorem d_BF_isSender_1 : decode prog_1_method_23_code 1 = .ok (.aload_n 0, 1) := by decide +kernel
theorem d_BF_isSender_2 : decode prog_1_method_23_code 2 = .ok (.getfield 41, 3) := by decide +kernel
theorem d_BF_isSender_5 : decode prog_1_method_23_code 5 = .ok (.getfield 90, 3) := by decide +kernel
theorem d_BF_isSender_8 : decode prog_1_method_23_code 8 = .ok (.getfield 190, 3) := by decide +kernel
theorem d_BF_isSender_11 : decode prog_1_method_23_code 11 = .ok (.iload_n 1, 1) := by decide +kernel
theorem d_BF_isSender_12 : decode prog_1_method_23_code 12 = .ok (.iaload, 1) := by decide +kernel
theorem d_BF_isSender_13 : decode prog_1_method_23_code 13 = .ok (.imul, 1) := by decide +kernel
theorem d_BF_isSender_14 : decode prog_1_method_23_code 14 = .ok (.aload_n 0, 1) := by decide +kernel
theorem d_BF_isSender_15 : decode prog_1_method_23_code 15 = .ok (.getfield 65, 3) := by decide +kernel
theorem d_BF_isSender_18 : decode prog_1_method_23_code 18 = .ok (.if_icmp .gt 28, 3) := by decide +kernel
theorem d_BF_isSender_21 : decode prog_1_method_23_code 21 = .ok (.iconst 4, 1) := by decide +kernel
theorem d_BF_isSender_22 : decode prog_1_method_23_code 22 = .ok (.aload_n 0, 1) := by decide +kernel
theorem d_BF_isSender_23 : decode prog_1_method_23_code 23 = .ok (.getfield 41, 3) := by decide +kernel
theorem d_BF_isSender_26 : decode prog_1_method_23_code 26 = .ok (.getfield 90, 3) := by decide +kernel
theorem d_BF_isSender_29 : decode prog_1_method_23_code 29 = .ok (.getfield 196, 3) := by decide +kernel
theorem d_BF_isSender_32 : decode prog_1_method_23_code 32 = .ok (.iload_n 1, 1) := by decide +kernel
theorem d_BF_isSender_33 : decode prog_1_method_23_code 33 = .ok (.iaload, 1) := by decide +kernel
theorem d_BF_isSender_34 : decode prog_1_method_23_code 34 = .ok (.imul, 1) := by decide +kernel
theorem d_BF_isSender_35 : decode prog_1_method_23_code 35 = .ok (.aload_n 0, 1) := by decide +kernel
theorem d_BF_isSender_36 : decode prog_1_method_23_code 36 = .ok (.getfield 69, 3) := by decide +kernel
theorem d_BF_isSender_39 : decode prog_1_method_23_code 39 = .ok (.if_icmp .gt 7, 3) := by decide +kernel
theorem d_BF_isSender_42 : decode prog_1_method_23_code 42 = .ok (.iconst 1, 1) := by decide +kernel
theorem d_BF_isSender_43 : decode prog_1_method_23_code 43 = .ok (.goto 4, 3) := by decide +kernel
theorem d_BF_isSender_46 : decode prog_1_method_23_code 46 = .ok (.iconst 0, 1) := by decide +kernel
theorem d_BF_isSender_47 : decode prog_1_method_23_code 47 = .ok (.ireturn, 1) := by decide +kernel
theorem d_BF_liesInPane_0 : decode prog_1_method_24_code 0 = .ok (.iconst 0, 1) := by decide +kernel
theorem d_BF_liesInPane_1 : decode prog_1_method_24_code 1 = .ok (.istore_n 2, 1) := by decide +kernel
theorem d_BF_liesInPane_2 : decode prog_1_method_24_code 2 = .ok (.iload_n 2, 1) := by decide +kernel
theorem d_BF_liesInPane_3 : decode prog_1_method_24_code 3 = .ok (.aload_n 0, 1) := by decide +kernel
theorem d_BF_liesInPane_4 : decode prog_1_method_24_code 4 = .ok (.getfield 18, 3) := by decide +kernel
theorem d_BF_liesInPane_7 : decode prog_1_method_24_code 7 = .ok (.getfield 110, 3) := by decide +kernel
theorem d_BF_liesInPane_10 : decode prog_1_method_24_code 10 = .ok (.if_icmp .ge 30, 3) := by decide +kernel
theorem d_BF_liesInPane_13 : decode prog_1_method_24_code 13 = .ok (.aload_n 0, 1) := by decide +kernel
theorem d_BF_liesInPane_14 : decode prog_1_method_24_code 14 = .ok (.getfield 18, 3) := by decide +kernel
theorem d_BF_liesInPane_17 : decode prog_1_method_24_code 17 = .ok (.iload_n 2, 1) := by decide +kernel
theorem d_BF_liesInPane_18 : decode prog_1_method_24_code 18 = .ok (.aload_n 0, 1) := by decide +kernel
theorem d_BF_liesInPane_19 : decode prog_1_method_24_code 19 = .ok (.getfield 41, 3) := by decide +kernel
theorem d_BF_liesInPane_22 : decode prog_1_method_24_code 22 = .ok (.getfield 90, 3) := by decide +kernel
theorem d_BF_liesInPane_25 : decode prog_1_method_24_code 25 = .ok (.iload_n 1, 1) := by decide +kernel
theorem d_BF_liesInPane_26 : decode prog_1_method_24_code 26 = .ok (.invokevirtual 202, 3) := by decide +kernel
theorem d_BF_liesInPane_29 : decode prog_1_method_24_code 29 = .ok (.ifCond .eq 5, 3) := by decide +kernel
theorem d_BF_liesInPane_32 : decode prog_1_method_24_code 32 = .ok (.iconst 1, 1) := by decide +kernel
theorem d_BF_liesInPane_33 : decode prog_1_method_24_code 33 = .ok (.ireturn, 1) := by decide +kernel
theorem d_BF_liesInPane_34 : decode prog_1_method_24_code 34 = .ok (.iinc 2 1, 3) := by decide +kernel
theorem d_BF_liesInPane_37 : decode prog_1_method_24_code 37 = .ok (.goto (-35), 3) := by decide +kernel
theorem d_BF_liesInPane_40 : decode prog_1_method_24_code 40 = .ok (.iconst 0, 1) := by decide +kernel
theorem d_BF_liesInPane_41 : decode prog_1_method_24_code 41 = .ok (.ireturn, 1) := by decide +kernel
theorem d_BF_lineInBlock_0 : decode prog_1_method_25_code 0 = .ok (.iconst 0, 1) := by decide +kernel
theorem d_BF_lineInBlock_1 : decode prog_1_method_25_code 1 = .ok (.istore_n 3, 1) := by decide +kernel
theorem d_BF_lineInBlock_2 : decode prog_1_method_25_code 2 = .ok (.iconst 0, 1) := by decide +kernel
theorem d_BF_lineInBlock_3 : decode prog_1_method_25_code 3 = .ok (.istore 4, 2) := by decide +kernel
theorem d_BF_lineInBlock_5 : decode prog_1_method_25_code 5 = .ok (.iload 4, 2) := by decide +kernel
theorem d_BF_lineInBlock_7 : decode prog_1_method_25_code 7 = .ok (.aload_n 0, 1) := by decide +kernel
theorem d_BF_lineInBlock_8 : decode prog_1_method_25_code 8 = .ok (.getfield 37, 3) := by decide +kernel
theorem d_BF_lineInBlock_11 : decode prog_1_method_25_code 11 = .ok (.invokevirtual 96, 3) := by decide +kernel
theorem d_BF_lineInBlock_14 : decode prog_1_method_25_code 14 = .ok (.if_icmp .ge 46, 3) := by decide +kernel
theorem d_BF_lineInBlock_17 : decode prog_1_method_25_code 17 = .ok (.aload_n 0, 1) := by decide +kernel
theorem d_BF_lineInBlock_18 : decode prog_1_method_25_code 18 = .ok (.getfield 37, 3) := by decide +kernel
theorem d_BF_lineInBlock_21 : decode prog_1_method_25_code 21 = .ok (.getfield 124, 3) := by decide +kernel
theorem d_BF_lineInBlock_24 : decode prog_1_method_25_code 24 = .ok (.iload 4, 2) := by decide +kernel
theorem d_BF_lineInBlock_26 : decode prog_1_method_25_code 26 = .ok (.iaload, 1) := by decide +kernel
theorem d_BF_lineInBlock_27 : decode prog_1_method_25_code 27 = .ok (.istore 5, 2) := by decide +kernel
theorem d_BF_lineInBlock_29 : decode prog_1_method_25_code 29 = .ok (.aload_n 0, 1) := by decide +kernel
theorem d_BF_lineInBlock_30 : decode prog_1_method_25_code 30 = .ok (.getfield 41, 3) := by decide +kernel
theorem d_BF_lineInBlock_33 : decode prog_1_method_25_code 33 = .ok (.getfield 171, 3) := by decide +kernel
theorem d_BF_lineInBlock_36 : decode prog_1_method_25_code 36 = .ok (.iload 5, 2) := by decide +kernel
theorem d_BF_lineInBlock_38 : decode prog_1_method_25_code 38 = .ok (.iaload, 1) := by decide +kernel
theorem d_BF_lineInBlock_39 : decode prog_1_method_25_code 39 = .ok (.iload_n 1, 1) := by decide +kernel
theorem d_BF_lineInBlock_40 : decode prog_1_method_25_code 40 = .ok (.if_icmp .ne 14, 3) := by decide +kernel
theorem d_BF_lineInBlock_43 : decode prog_1_method_25_code 43 = .ok (.iload_n 3, 1) := by decide +kernel
theorem d_BF_lineInBlock_44 : decode prog_1_method_25_code 44 = .ok (.iload_n 2, 1) := by decide +kernel
theorem d_BF_lineInBlock_45 : decode prog_1_method_25_code 45 = .ok (.if_icmp .ne 6, 3) := by decide +kernel
theorem d_BF_lineInBlock_48 : decode prog_1_method_25_code 48 = .ok (.iload 5, 2) := by decide +kernel
theorem d_BF_lineInBlock_50 : decode prog_1_method_25_code 50 = .ok (.ireturn, 1) := by decide +kernel
theorem d_BF_lineInBlock_51 : decode prog_1_method_25_code 51 = .ok (.iinc 3 1, 3) := by decide +kernel
theorem d_BF_lineInBlock_54 : decode prog_1_method_25_code 54 = .ok (.iinc 4 1, 3) := by decide +kernel
theorem d_BF_lineInBlock_57 : decode prog_1_method_25_code 57 = .ok (.goto (-52), 3) := by decide +kernel
theorem d_BF_lineInBlock_60 : decode prog_1_method_25_code 60 = .ok (.iconst (-1), 1) := by decide +kernel
theorem d_BF_lineInBlock_61 : decode prog_1_method_25_code 61 = .ok (.ireturn, 1) := by decide +kernel
end
section
theorem d_RM_init_0 : decode prog_6_method_1_code 0 = .ok (.aload_n 0, 1) := by decide +kernel
theorem d_RM_init_1 : decode prog_6_method_1_code 1 = .ok (.invokespecial 1, 3) := by decide +kernel
theorem d_RM_init_4 : decode prog_6_method_1_code 4 = .ok (.aload_n 0, 1) := by decide +kernel
theorem d_RM_init_5 : decode prog_6_method_1_code 5 = .ok (.sipush 256, 3) := by decide +kernel
theorem d_RM_init_8 : decode prog_6_method_1_code 8 = .ok (.newarray .int, 2) := by decide +kernel
theorem d_RM_init_10 : decode prog_6_method_1_code 10 = .ok (.putfield 7, 3) := by decide +kernel
theorem d_RM_init_13 : decode prog_6_method_1_code 13 = .ok (.aload_n 0, 1) := by decide +kernel
theorem d_RM_init_14 : decode prog_6_method_1_code 14 = .ok (.bipush 32, 2) := by decide +kernel
theorem d_RM_init_16 : decode prog_6_method_1_code 16 = .ok (.newarray .int, 2) := by decide +kernel
theorem d_RM_init_18 : decode prog_6_method_1_code 18 = .ok (.putfield 13, 3) := by decide +kernel
theorem d_RM_init_21 : decode prog_6_method_1_code 21 = .ok (.aload_n 0, 1) := by decide +kernel
theorem d_RM_init_22 : decode prog_6_method_1_code 22 = .ok (.bipush 64, 2) := by decide +kernel
theorem d_RM_init_24 : decode prog_6_method_1_code 24 = .ok (.newarray .int, 2) := by decide +kernel
theorem d_RM_init_26 : decode prog_6_method_1_code 26 = .ok (.putfield 16, 3) := by decide +kernel
theorem d_RM_init_29 : decode prog_6_method_1_code 29 = .ok (.aload_n 0, 1) := by decide +kernel
theorem d_RM_init_30 : decode prog_6_method_1_code 30 = .ok (.sipush 256, 3) := by decide +kernel
theorem d_RM_init_33 : decode prog_6_method_1_code 33 = .ok (.newarray .int, 2) := by decide +kernel
theorem d_RM_init_35 : decode prog_6_method_1_code 35 = .ok (.putfield 19, 3) := by decide +kernel
theorem d_RM_init_38 : decode prog_6_method_1_code 38 = .ok (.aload_n 0, 1) := by decide +kernel
theorem d_RM_init_39 : decode prog_6_method_1_code 39 = .ok (.bipush 64, 2) := by decide +kernel
theorem d_RM_init_41 : decode prog_6_method_1_code 41 = .ok (.newarray .int, 2) := by decide +kernel
theorem d_RM_init_43 : decode prog_6_method_1_code 43 = .ok (.putfield 22, 3) := by decide +kernel
theorem d_RM_init_46 : decode prog_6_method_1_code 46 = .ok (.aload_n 0, 1) := by decide +kernel
theorem d_RM_init_47 : decode prog_6_method_1_code 47 = .ok (.bipush 64, 2) := by decide +kernel
theorem d_RM_init_49 : decode prog_6_method_1_code 49 = .ok (.newarray .int, 2) := by decide +kernel
theorem d_RM_init_51 : decode prog_6_method_1_code 51 = .ok (.putfield 25, 3) := by decide +kernel
theorem d_RM_init_54 : decode prog_6_method_1_code 54 = .ok (.aload_n 0, 1) := by decide +kernel
theorem d_RM_init_55 : decode prog_6_method_1_code 55 = .ok (.sipush 256, 3) := by decide +kernel
theorem d_RM_init_58 : decode prog_6_method_1_code 58 = .ok (.newarray .int, 2) := by decide +kernel
theorem d_RM_init_60 : decode prog_6_method_1_code 60 = .ok (.putfield 28, 3) := by decide +kernel
theorem d_RM_init_63 : decode prog_6_method_1_code 63 = .ok (.aload_n 0, 1) := by decide +kernel
theorem d_RM_init_64 : decode prog_6_method_1_code 64 = .ok (.bipush 64, 2) := by decide +kernel
theorem d_RM_init_66 : decode prog_6_method_1_code 66 = .ok (.newarray .int, 2) := by decide +kernel
theorem d_RM_init_68 : decode prog_6_method_1_code 68 = .ok (.putfield 31, 3) := by decide +kernel
theorem d_RM_init_71 : decode prog_6_method_1_code 71 = .ok (.aload_n 0, 1) := by decide +kernel
theorem d_RM_init_72 : decode prog_6_method_1_code 72 = .ok (.bipush 64, 2) := by decide +kernel
theorem d_RM_init_74 : decode prog_6_method_1_code 74 = .ok (.newarray .int, 2) := by decide +kernel
theorem d_RM_init_76 : decode prog_6_method_1_code 76 = .ok (.putfield 34, 3) := by decide +kernel
theorem d_RM_init_79 : decode prog_6_method_1_code 79 = .ok (.aload_n 0, 1) := by decide +kernel
theorem d_RM_init_80 : decode prog_6_method_1_code 80 = .ok (.bipush 64, 2) := by decide +kernel
theorem d_RM_init_82 : decode prog_6_method_1_code 82 = .ok (.newarray .boolean, 2) := by decide +kernel
theorem d_RM_init_84 : decode prog_6_method_1_code 84 = .ok (.putfield 37, 3) := by decide +kernel
theorem d_RM_init_87 : decode prog_6_method_1_code 87 = .ok (.aload_n 0, 1) := by decide +kernel
theorem d_RM_init_88 : decode prog_6_method_1_code 88 = .ok (.bipush 64, 2) := by decide +kernel
theorem d_RM_init_90 : decode prog_6_method_1_code 90 = .ok (.newarray .int, 2) := by decide +kernel
theorem d_RM_init_92 : decode prog_6_method_1_code 92 = .ok (.putfield 41, 3) := by decide +kernel
theorem d_RM_init_95 : decode prog_6_method_1_code 95 = .ok (.aload_n 0, 1) := by decide +kernel
theorem d_RM_init_96 : decode prog_6_method_1_code 96 = .ok (.sipush 256, 3) := by decide +kernel
theorem d_RM_init_99 : decode prog_6_method_1_code 99 = .ok (.newarray .int, 2) := by decide +kernel
theorem d_RM_init_101 : decode prog_6_method_1_code 101 = .ok (.putfield 44, 3) := by decide +kernel
theorem d_RM_init_104 : decode prog_6_method_1_code 104 = .ok (.aload_n 0, 1) := by decide +kernel
theorem d_RM_init_105 : decode prog_6_method_1_code 105 = .ok (.bipush 64, 2) := by decide +kernel
theorem d_RM_init_107 : decode prog_6_method_1_code 107 = .ok (.newarray .int, 2) := by decide +kernel
theorem d_RM_init_109 : decode prog_6_method_1_code 109 = .ok (.putfield 47, 3) := by decide +kernel
theorem d_RM_init_112 : decode prog_6_method_1_code 112 = .ok (.aload_n 0, 1) := by decide +kernel
theorem d_RM_init_113 : decode prog_6_method_1_code 113 = .ok (.bipush 64, 2) := by decide +kernel
theorem d_RM_init_115 : decode prog_6_method_1_code 115 = .ok (.newarray .int, 2) := by decide +kernel
theorem d_RM_init_117 : decode prog_6_method_1_code 117 = .ok (.putfield 50, 3) := by decide +kernel
theorem d_RM_init_120 : decode prog_6_method_1_code 120 = .ok (.aload_n 0, 1) := by decide +kernel
theorem d_RM_init_121 : decode prog_6_method_1_code 121 = .ok (.bipush 64, 2) := by decide +kernel
theorem d_RM_init_123 : decode prog_6_method_1_code 123 = .ok (.newarray .int, 2) := by decide +kernel
theorem d_RM_init_125 : decode prog_6_method_1_code 125 = .ok (.putfield 53, 3) := by decide +kernel
theorem d_RM_init_128 : decode prog_6_method_1_code 128 = .ok (.aload_n 0, 1) := by decide +kernel
theorem d_RM_init_129 : decode prog_6_method_1_code 129 = .ok (.bipush 64, 2) := by decide +kernel
theorem d_RM_init_131 : decode prog_6_method_1_code 131 = .ok (.newarray .int, 2) := by decide +kernel
theorem d_RM_init_133 : decode prog_6_method_1_code 133 = .ok (.putfield 56, 3) := by decide +kernel
theorem d_RM_init_136 : decode prog_6_method_1_code 136 = .ok (.aload_n 0, 1) := by decide +kernel
theorem d_RM_init_137 : decode prog_6_method_1_code 137 = .ok (.iload_n 1, 1) := by decide +kernel
theorem d_RM_init_138 : decode prog_6_method_1_code 138 = .ok (.iconst 1, 1) := by decide +kernel
theorem d_RM_init_139 : decode prog_6_method_1_code 139 = .ok (.if_icmp .ge 7, 3) := by decide +kernel
theorem d_RM_init_142 : decode prog_6_method_1_code 142 = .ok (.iconst 1, 1) := by decide +kernel
theorem d_RM_init_143 : decode prog_6_method_1_code 143 = .ok (.goto 17, 3) := by decide +kernel
theorem d_RM_init_146 : decode prog_6_method_1_code 146 = .ok (.iload_n 1, 1) := by decide +kernel
theorem d_RM_init_147 : decode prog_6_method_1_code 147 = .ok (.sipush 4096, 3) := by decide +kernel
theorem d_RM_init_150 : decode prog_6_method_1_code 150 = .ok (.if_icmp .le 9, 3) := by decide +kernel
theorem d_RM_init_153 : decode prog_6_method_1_code 153 = .ok (.sipush 4096, 3) := by decide +kernel
theorem d_RM_init_156 : decode prog_6_method_1_code 156 = .ok (.goto 4, 3) := by decide +kernel
theorem d_RM_init_159 : decode prog_6_method_1_code 159 = .ok (.iload_n 1, 1) := by decide +kernel
theorem d_RM_init_160 : decode prog_6_method_1_code 160 = .ok (.putfield 59, 3) := by decide +kernel
theorem d_RM_init_163 : decode prog_6_method_1_code 163 = .ok (.aload_n 0, 1) := by decide +kernel
theorem d_RM_init_164 : decode prog_6_method_1_code 164 = .ok (.iload_n 2, 1) := by decide +kernel
theorem d_RM_init_165 : decode prog_6_method_1_code 165 = .ok (.iconst 1, 1) := by decide +kernel
theorem d_RM_init_166 : decode prog_6_method_1_code 166 = .ok (.if_icmp .ge 7, 3) := by decide +kernel
theorem d_RM_init_169 : decode prog_6_method_1_code 169 = .ok (.iconst 1, 1) := by decide +kernel
theorem d_RM_init_170 : decode prog_6_method_1_code 170 = .ok (.goto 17, 3) := by decide +kernel
theorem d_RM_init_173 : decode prog_6_method_1_code 173 = .ok (.iload_n 2, 1) := by decide +kernel
theorem d_RM_init_174 : decode prog_6_method_1_code 174 = .ok (.sipush 4096, 3) := by decide +kernel
theorem d_RM_init_177 : decode prog_6_method_1_code 177 = .ok (.if_icmp .le 9, 3) := by decide +kernel
theorem d_RM_init_180 : decode prog_6_method_1_code 180 = .ok (.sipush 4096, 3) := by decide +kernel
theorem d_RM_init_183 : decode prog_6_method_1_code 183 = .ok (.goto 4, 3) := by decide +kernel
theorem d_RM_init_186 : decode prog_6_method_1_code 186 = .ok (.iload_n 2, 1) := by decide +kernel
theorem d_RM_init_187 : decode prog_6_method_1_code 187 = .ok (.putfield 63, 3) := by decide +kernel
theorem d_RM_init_190 : decode prog_6_method_1_code 190 = .ok (.return_, 1) := by decide +kernel
theorem d_RM_isOnSheet_0 : decode prog_6_method_3_code 0 = .ok (.iload_n 3, 1) := by decide +kernel
theorem d_RM_isOnSheet_1 : decode prog_6_method_3_code 1 = .ok (.iconst 1, 1) := by decide +kernel
theorem d_RM_isOnSheet_2 : decode prog_6_method_3_code 2 = .ok (.if_icmp .lt 50, 3) := by decide +kernel
theorem d_RM_isOnSheet_5 : decode prog_6_method_3_code 5 = .ok (.iload 4, 2) := by decide +kernel
theorem d_RM_isOnSheet_7 : decode prog_6_method_3_code 7 = .ok (.iconst 1, 1) := by decide +kernel
theorem d_RM_isOnSheet_8 : decode prog_6_method_3_code 8 = .ok (.if_icmp .lt 44, 3) := by decide +kernel
theorem d_RM_isOnSheet_11 : decode prog_6_method_3_code 11 = .ok (.iload_n 1, 1) := by decide +kernel
theorem d_RM_isOnSheet_12 : decode prog_6_method_3_code 12 = .ok (.ifCond .lt 40, 3) := by decide +kernel
theorem d_RM_isOnSheet_15 : decode prog_6_method_3_code 15 = .ok (.iload_n 2, 1) := by decide +kernel
theorem d_RM_isOnSheet_16 : decode prog_6_method_3_code 16 = .ok (.ifCond .lt 36, 3) := by decide +kernel
theorem d_RM_isOnSheet_19 : decode prog_6_method_3_code 19 = .ok (.iload_n 1, 1) := by decide +kernel
theorem d_RM_isOnSheet_20 : decode prog_6_method_3_code 20 = .ok (.i2l, 1) := by decide +kernel
theorem d_RM_isOnSheet_21 : decode prog_6_method_3_code 21 = .ok (.iload_n 3, 1) := by decide +kernel
theorem d_RM_isOnSheet_22 : decode prog_6_method_3_code 22 = .ok (.i2l, 1) := by decide +kernel
theorem d_RM_isOnSheet_23 : decode prog_6_method_3_code 23 = .ok (.ladd, 1) := by decide +kernel
theorem d_RM_isOnSheet_24 : decode prog_6_method_3_code 24 = .ok (.aload_n 0, 1) := by decide +kernel
theorem d_RM_isOnSheet_25 : decode prog_6_method_3_code 25 = .ok (.getfield 59, 3) := by decide +kernel
theorem d_RM_isOnSheet_28 : decode prog_6_method_3_code 28 = .ok (.i2l, 1) := by decide +kernel
theorem d_RM_isOnSheet_29 : decode prog_6_method_3_code 29 = .ok (.lcmp, 1) := by decide +kernel
theorem d_RM_isOnSheet_30 : decode prog_6_method_3_code 30 = .ok (.ifCond .gt 22, 3) := by decide +kernel
theorem d_RM_isOnSheet_33 : decode prog_6_method_3_code 33 = .ok (.iload_n 2, 1) := by decide +kernel
theorem d_RM_isOnSheet_34 : decode prog_6_method_3_code 34 = .ok (.i2l, 1) := by decide +kernel
theorem d_RM_isOnSheet_35 : decode prog_6_method_3_code 35 = .ok (.iload 4, 2) := by decide +kernel
theorem d_RM_isOnSheet_37 : decode prog_6_method_3_code 37 = .ok (.i2l, 1) := by decide +kernel
theorem d_RM_isOnSheet_38 : decode prog_6_method_3_code 38 = .ok (.ladd, 1) := by decide +kernel
theorem d_RM_isOnSheet_39 : decode prog_6_method_3_code 39 = .ok (.aload_n 0, 1) := by decide +kernel
theorem d_RM_isOnSheet_40 : decode prog_6_method_3_code 40 = .ok (.getfield 63, 3) := by decide +kernel
theorem d_RM_isOnSheet_43 : decode prog_6_method_3_code 43 = .ok (.i2l, 1) := by decide +kernel
theorem d_RM_isOnSheet_44 : decode prog_6_method_3_code 44 = .ok (.lcmp, 1) := by decide +kernel
theorem d_RM_isOnSheet_45 : decode prog_6_method_3_code 45 = .ok (.ifCond .gt 7, 3) := by decide +kernel
theorem d_RM_isOnSheet_48 : decode prog_6_method_3_code 48 = .ok (.iconst 1, 1) := by decide +kernel
theorem d_RM_isOnSheet_49 : decode prog_6_method_3_code 49 = .ok (.goto 4, 3) := by decide +kernel
theorem d_RM_isOnSheet_52 : decode prog_6_method_3_code 52 = .ok (.iconst 0, 1) := by decide +kernel
theorem d_RM_isOnSheet_53 : decode prog_6_method_3_code 53 = .ok (.ireturn, 1) := by decide +kernel
theorem d_RM_box_0 : decode prog_6_method_4_code 0 = .ok (.aload_n 0, 1) := by decide +kernel
theorem d_RM_box_1 : decode prog_6_method_4_code 1 = .ok (.iconst 0, 1) := by decide +kernel
theorem d_RM_box_2 : decode prog_6_method_4_code 2 = .ok (.putfield 66, 3) := by decide +kernel
theorem d_RM_box_5 : decode prog_6_method_4_code 5 = .ok (.aload_n 0, 1) := by decide +kernel
theorem d_RM_box_6 : decode prog_6_method_4_code 6 = .ok (.iload_n 1, 1) := by decide +kernel
theorem d_RM_box_7 : decode prog_6_method_4_code 7 = .ok (.iload_n 2, 1) := by decide +kernel
theorem d_RM_box_8 : decode prog_6_method_4_code 8 = .ok (.iload_n 3, 1) := by decide +kernel
theorem d_RM_box_9 : decode prog_6_method_4_code 9 = .ok (.iload 4, 2) := by decide +kernel
theorem d_RM_box_11 : decode prog_6_method_4_code 11 = .ok (.invokevirtual 69, 3) := by decide +kernel
theorem d_RM_box_14 : decode prog_6_method_4_code 14 = .ok (.ifCond .ne 6, 3) := by decide +kernel
theorem d_RM_box_17 : decode prog_6_method_4_code 17 = .ok (.bipush (-12), 2) := by decide +kernel
theorem d_RM_box_19 : decode prog_6_method_4_code 19 = .ok (.ireturn, 1) := by decide +kernel
theorem d_RM_box_20 : decode prog_6_method_4_code 20 = .ok (.aload_n 0, 1) := by decide +kernel
theorem d_RM_box_21 : decode prog_6_method_4_code 21 = .ok (.getfield 73, 3) := by decide +kernel
theorem d_RM_box_24 : decode prog_6_method_4_code 24 = .ok (.bipush 64, 2) := by decide +kernel
theorem d_RM_box_26 : decode prog_6_method_4_code 26 = .ok (.if_icmp .ne 6, 3) := by decide +kernel
theorem d_RM_box_29 : decode prog_6_method_4_code 29 = .ok (.bipush (-14), 2) := by decide +kernel
theorem d_RM_box_31 : decode prog_6_method_4_code 31 = .ok (.ireturn, 1) := by decide +kernel
theorem d_RM_box_32 : decode prog_6_method_4_code 32 = .ok (.aload_n 0, 1) := by decide +kernel
theorem d_RM_box_33 : decode prog_6_method_4_code 33 = .ok (.getfield 7, 3) := by decide +kernel
theorem d_RM_box_36 : decode prog_6_method_4_code 36 = .ok (.iconst 4, 1) := by decide +kernel
theorem d_RM_box_37 : decode prog_6_method_4_code 37 = .ok (.aload_n 0, 1) := by decide +kernel
theorem d_RM_box_38 : decode prog_6_method_4_code 38 = .ok (.getfield 73, 3) := by decide +kernel
theorem d_RM_box_41 : decode prog_6_method_4_code 41 = .ok (.imul, 1) := by decide +kernel
theorem d_RM_box_42 : decode prog_6_method_4_code 42 = .ok (.iload_n 1, 1) := by decide +kernel
theorem d_RM_box_43 : decode prog_6_method_4_code 43 = .ok (.iastore, 1) := by decide +kernel
theorem d_RM_box_44 : decode prog_6_method_4_code 44 = .ok (.aload_n 0, 1) := by decide +kernel
theorem d_RM_box_45 : decode prog_6_method_4_code 45 = .ok (.getfield 7, 3) := by decide +kernel
theorem d_RM_box_48 : decode prog_6_method_4_code 48 = .ok (.iconst 4, 1) := by decide +kernel
theorem d_RM_box_49 : decode prog_6_method_4_code 49 = .ok (.aload_n 0, 1) := by decide +kernel
theorem d_RM_box_50 : decode prog_6_method_4_code 50 = .ok (.getfield 73, 3) := by decide +kernel
theorem d_RM_box_53 : decode prog_6_method_4_code 53 = .ok (.imul, 1) := by decide +kernel
theorem d_RM_box_54 : decode prog_6_method_4_code 54 = .ok (.iconst 1, 1) := by decide +kernel
theorem d_RM_box_55 : decode prog_6_method_4_code 55 = .ok (.iadd, 1) := by decide +kernel
theorem d_RM_box_56 : decode prog_6_method_4_code 56 = .ok (.iload_n 2, 1) := by decide +kernel
theorem d_RM_box_57 : decode prog_6_method_4_code 57 = .ok (.iastore, 1) := by decide +kernel
theorem d_RM_box_58 : decode prog_6_method_4_code 58 = .ok (.aload_n 0, 1) := by decide +kernel
theorem d_RM_box_59 : decode prog_6_method_4_code 59 = .ok (.getfield 7, 3) := by decide +kernel
theorem d_RM_box_62 : decode prog_6_method_4_code 62 = .ok (.iconst 4, 1) := by decide +kernel
theorem d_RM_box_63 : decode prog_6_method_4_code 63 = .ok (.aload_n 0, 1) := by decide +kernel
theorem d_RM_box_64 : decode prog_6_method_4_code 64 = .ok (.getfield 73, 3) := by decide +kernel
theorem d_RM_box_67 : decode prog_6_method_4_code 67 = .ok (.imul, 1) := by decide +kernel
theorem d_RM_box_68 : decode prog_6_method_4_code 68 = .ok (.iconst 2, 1) := by decide +kernel
theorem d_RM_box_69 : decode prog_6_method_4_code 69 = .ok (.iadd, 1) := by decide +kernel
theorem d_RM_box_70 : decode prog_6_method_4_code 70 = .ok (.iload_n 3, 1) := by decide +kernel
theorem d_RM_box_71 : decode prog_6_method_4_code 71 = .ok (.iastore, 1) := by decide +kernel
theorem d_RM_box_72 : decode prog_6_method_4_code 72 = .ok (.aload_n 0, 1) := by decide +kernel
theorem d_RM_box_73 : decode prog_6_method_4_code 73 = .ok (.getfield 7, 3) := by decide +kernel
theorem d_RM_box_76 : decode prog_6_method_4_code 76 = .ok (.iconst 4, 1) := by decide +kernel
theorem d_RM_box_77 : decode prog_6_method_4_code 77 = .ok (.aload_n 0, 1) := by decide +kernel
theorem d_RM_box_78 : decode prog_6_method_4_code 78 = .ok (.getfield 73, 3) := by decide +kernel
theorem d_RM_box_81 : decode prog_6_method_4_code 81 = .ok (.imul, 1) := by decide +kernel
theorem d_RM_box_82 : decode prog_6_method_4_code 82 = .ok (.iconst 3, 1) := by decide +kernel
theorem d_RM_box_83 : decode prog_6_method_4_code 83 = .ok (.iadd, 1) := by decide +kernel
theorem d_RM_box_84 : decode prog_6_method_4_code 84 = .ok (.iload 4, 2) := by decide +kernel
theorem d_RM_box_86 : decode prog_6_method_4_code 86 = .ok (.iastore, 1) := by decide +kernel
theorem d_RM_box_87 : decode prog_6_method_4_code 87 = .ok (.aload_n 0, 1) := by decide +kernel
theorem d_RM_box_88 : decode prog_6_method_4_code 88 = .ok (.dup, 1) := by decide +kernel
theorem d_RM_box_89 : decode prog_6_method_4_code 89 = .ok (.getfield 73, 3) := by decide +kernel
theorem d_RM_box_92 : decode prog_6_method_4_code 92 = .ok (.iconst 1, 1) := by decide +kernel
theorem d_RM_box_93 : decode prog_6_method_4_code 93 = .ok (.iadd, 1) := by decide +kernel
theorem d_RM_box_94 : decode prog_6_method_4_code 94 = .ok (.putfield 73, 3) := by decide +kernel
theorem d_RM_box_97 : decode prog_6_method_4_code 97 = .ok (.aload_n 0, 1) := by decide +kernel
theorem d_RM_box_98 : decode prog_6_method_4_code 98 = .ok (.getfield 73, 3) := by decide +kernel
theorem d_RM_box_101 : decode prog_6_method_4_code 101 = .ok (.iconst 1, 1) := by decide +kernel
theorem d_RM_box_102 : decode prog_6_method_4_code 102 = .ok (.isub, 1) := by decide +kernel
theorem d_RM_box_103 : decode prog_6_method_4_code 103 = .ok (.ireturn, 1) := by decide +kernel
theorem d_RM_frame_0 : decode prog_6_method_5_code 0 = .ok (.aload_n 0, 1) := by decide +kernel
theorem d_RM_frame_1 : decode prog_6_method_5_code 1 = .ok (.iconst 0, 1) := by decide +kernel
theorem d_RM_frame_2 : decode prog_6_method_5_code 2 = .ok (.putfield 66, 3) := by decide +kernel
theorem d_RM_frame_5 : decode prog_6_method_5_code 5 = .ok (.aload_n 0, 1) := by decide +kernel
theorem d_RM_frame_6 : decode prog_6_method_5_code 6 = .ok (.iload_n 1, 1) := by decide +kernel
theorem d_RM_frame_7 : decode prog_6_method_5_code 7 = .ok (.iload_n 2, 1) := by decide +kernel
theorem d_RM_frame_8 : decode prog_6_method_5_code 8 = .ok (.iload_n 3, 1) := by decide +kernel
theorem d_RM_frame_9 : decode prog_6_method_5_code 9 = .ok (.iload 4, 2) := by decide +kernel
theorem d_RM_frame_11 : decode prog_6_method_5_code 11 = .ok (.invokevirtual 69, 3) := by decide +kernel
theorem d_RM_frame_14 : decode prog_6_method_5_code 14 = .ok (.ifCond .ne 6, 3) := by decide +kernel
theorem d_RM_frame_17 : decode prog_6_method_5_code 17 = .ok (.bipush (-12), 2) := by decide +kernel
theorem d_RM_frame_19 : decode prog_6_method_5_code 19 = .ok (.ireturn, 1) := by decide +kernel
theorem d_RM_frame_20 : decode prog_6_method_5_code 20 = .ok (.aload_n 0, 1) := by decide +kernel
theorem d_RM_frame_21 : decode prog_6_method_5_code 21 = .ok (.getfield 76, 3) := by decide +kernel
theorem d_RM_frame_24 : decode prog_6_method_5_code 24 = .ok (.bipush 8, 2) := by decide +kernel
theorem d_RM_frame_26 : decode prog_6_method_5_code 26 = .ok (.if_icmp .ne 6, 3) := by decide +kernel
theorem d_RM_frame_29 : decode prog_6_method_5_code 29 = .ok (.bipush (-14), 2) := by decide +kernel
theorem d_RM_frame_31 : decode prog_6_method_5_code 31 = .ok (.ireturn, 1) := by decide +kernel
theorem d_RM_frame_32 : decode prog_6_method_5_code 32 = .ok (.aload_n 0, 1) := by decide +kernel
theorem d_RM_frame_33 : decode prog_6_method_5_code 33 = .ok (.getfield 13, 3) := by decide +kernel
theorem d_RM_frame_36 : decode prog_6_method_5_code 36 = .ok (.iconst 4, 1) := by decide +kernel
theorem d_RM_frame_37 : decode prog_6_method_5_code 37 = .ok (.aload_n 0, 1) := by decide +kernel
theorem d_RM_frame_38 : decode prog_6_method_5_code 38 = .ok (.getfield 76, 3) := by decide +kernel
theorem d_RM_frame_41 : decode prog_6_method_5_code 41 = .ok (.imul, 1) := by decide +kernel
theorem d_RM_frame_42 : decode prog_6_method_5_code 42 = .ok (.iload_n 1, 1) := by decide +kernel
theorem d_RM_frame_43 : decode prog_6_method_5_code 43 = .ok (.iastore, 1) := by decide +kernel
theorem d_RM_frame_44 : decode prog_6_method_5_code 44 = .ok (.aload_n 0, 1) := by decide +kernel
theorem d_RM_frame_45 : decode prog_6_method_5_code 45 = .ok (.getfield 13, 3) := by decide +kernel
theorem d_RM_frame_48 : decode prog_6_method_5_code 48 = .ok (.iconst 4, 1) := by decide +kernel
theorem d_RM_frame_49 : decode prog_6_method_5_code 49 = .ok (.aload_n 0, 1) := by decide +kernel
theorem d_RM_frame_50 : decode prog_6_method_5_code 50 = .ok (.getfield 76, 3) := by decide +kernel
theorem d_RM_frame_53 : decode prog_6_method_5_code 53 = .ok (.imul, 1) := by decide +kernel
theorem d_RM_frame_54 : decode prog_6_method_5_code 54 = .ok (.iconst 1, 1) := by decide +kernel
theorem d_RM_frame_55 : decode prog_6_method_5_code 55 = .ok (.iadd, 1) := by decide +kernel
theorem d_RM_frame_56 : decode prog_6_method_5_code 56 = .ok (.iload_n 2, 1) := by decide +kernel
theorem d_RM_frame_57 : decode prog_6_method_5_code 57 = .ok (.iastore, 1) := by decide +kernel
theorem d_RM_frame_58 : decode prog_6_method_5_code 58 = .ok (.aload_n 0, 1) := by decide +kernel
theorem d_RM_frame_59 : decode prog_6_method_5_code 59 = .ok (.getfield 13, 3) := by decide +kernel
theorem d_RM_frame_62 : decode prog_6_method_5_code 62 = .ok (.iconst 4, 1) := by decide +kernel
theorem d_RM_frame_63 : decode prog_6_method_5_code 63 = .ok (.aload_n 0, 1) := by decide +kernel
theorem d_RM_frame_64 : decode prog_6_method_5_code 64 = .ok (.getfield 76, 3) := by decide +kernel
theorem d_RM_frame_67 : decode prog_6_method_5_code 67 = .ok (.imul, 1) := by decide +kernel
theorem d_RM_frame_68 : decode prog_6_method_5_code 68 = .ok (.iconst 2, 1) := by decide +kernel
theorem d_RM_frame_69 : decode prog_6_method_5_code 69 = .ok (.iadd, 1) := by decide +kernel
theorem d_RM_frame_70 : decode prog_6_method_5_code 70 = .ok (.iload_n 3, 1) := by decide +kernel
theorem d_RM_frame_71 : decode prog_6_method_5_code 71 = .ok (.iastore, 1) := by decide +kernel
theorem d_RM_frame_72 : decode prog_6_method_5_code 72 = .ok (.aload_n 0, 1) := by decide +kernel
theorem d_RM_frame_73 : decode prog_6_method_5_code 73 = .ok (.getfield 13, 3) := by decide +kernel
theorem d_RM_frame_76 : decode prog_6_method_5_code 76 = .ok (.iconst 4, 1) := by decide +kernel
theorem d_RM_frame_77 : decode prog_6_method_5_code 77 = .ok (.aload_n 0, 1) := by decide +kernel
theorem d_RM_frame_78 : decode prog_6_method_5_code 78 = .ok (.getfield 76, 3) := by decide +kernel
theorem d_RM_frame_81 : decode prog_6_method_5_code 81 = .ok (.imul, 1) := by decide +kernel
theorem d_RM_frame_82 : decode prog_6_method_5_code 82 = .ok (.iconst 3, 1) := by decide +kernel
theorem d_RM_frame_83 : decode prog_6_method_5_code 83 = .ok (.iadd, 1) := by decide +kernel
theorem d_RM_frame_84 : decode prog_6_method_5_code 84 = .ok (.iload 4, 2) := by decide +kernel
theorem d_RM_frame_86 : decode prog_6_method_5_code 86 = .ok (.iastore, 1) := by decide +kernel
theorem d_RM_frame_87 : decode prog_6_method_5_code 87 = .ok (.aload_n 0, 1) := by decide +kernel
theorem d_RM_frame_88 : decode prog_6_method_5_code 88 = .ok (.dup, 1) := by decide +kernel
theorem d_RM_frame_89 : decode prog_6_method_5_code 89 = .ok (.getfield 76, 3) := by decide +kernel
theorem d_RM_frame_92 : decode prog_6_method_5_code 92 = .ok (.iconst 1, 1) := by decide +kernel
theorem d_RM_frame_93 : decode prog_6_method_5_code 93 = .ok (.iadd, 1) := by decide +kernel
theorem d_RM_frame_94 : decode prog_6_method_5_code 94 = .ok (.putfield 76, 3) := by decide +kernel
theorem d_RM_frame_97 : decode prog_6_method_5_code 97 = .ok (.aload_n 0, 1) := by decide +kernel
theorem d_RM_frame_98 : decode prog_6_method_5_code 98 = .ok (.getfield 76, 3) := by decide +kernel
theorem d_RM_frame_101 : decode prog_6_method_5_code 101 = .ok (.iconst 1, 1) := by decide +kernel
theorem d_RM_frame_102 : decode prog_6_method_5_code 102 = .ok (.isub, 1) := by decide +kernel
theorem d_RM_frame_103 : decode prog_6_method_5_code 103 = .ok (.ireturn, 1) := by decide +kernel
theorem d_RM_side_0 : decode prog_6_method_6_code 0 = .ok (.aload_n 0, 1) := by decide +kernel
theorem d_RM_side_1 : decode prog_6_method_6_code 1 = .ok (.getfield 79, 3) := by decide +kernel
theorem d_RM_side_4 : decode prog_6_method_6_code 4 = .ok (.ifCond .eq 9, 3) := by decide +kernel
theorem d_RM_side_7 : decode prog_6_method_6_code 7 = .ok (.iload_n 2, 1) := by decide +kernel
theorem d_RM_side_8 : decode prog_6_method_6_code 8 = .ok (.iconst 1, 1) := by decide +kernel
theorem d_RM_side_9 : decode prog_6_method_6_code 9 = .ok (.ixor, 1) := by decide +kernel
theorem d_RM_side_10 : decode prog_6_method_6_code 10 = .ok (.goto 4, 3) := by decide +kernel
theorem d_RM_side_13 : decode prog_6_method_6_code 13 = .ok (.iload_n 2, 1) := by decide +kernel
theorem d_RM_side_14 : decode prog_6_method_6_code 14 = .ok (.istore_n 3, 1) := by decide +kernel
theorem d_RM_side_15 : decode prog_6_method_6_code 15 = .ok (.iload_n 1, 1) := by decide +kernel
theorem d_RM_side_16 : decode prog_6_method_6_code 16 = .ok (.bipush 64, 2) := by decide +kernel
theorem d_RM_side_18 : decode prog_6_method_6_code 18 = .ok (.if_icmp .ge 16, 3) := by decide +kernel
theorem d_RM_side_21 : decode prog_6_method_6_code 21 = .ok (.aload_n 0, 1) := by decide +kernel
theorem d_RM_side_22 : decode prog_6_method_6_code 22 = .ok (.getfield 7, 3) := by decide +kernel
theorem d_RM_side_25 : decode prog_6_method_6_code 25 = .ok (.iconst 4, 1) := by decide +kernel
theorem d_RM_side_26 : decode prog_6_method_6_code 26 = .ok (.iload_n 1, 1) := by decide +kernel
theorem d_RM_side_27 : decode prog_6_method_6_code 27 = .ok (.imul, 1) := by decide +kernel
theorem d_RM_side_28 : decode prog_6_method_6_code 28 = .ok (.iload_n 3, 1) := by decide +kernel
theorem d_RM_side_29 : decode prog_6_method_6_code 29 = .ok (.iadd, 1) := by decide +kernel
theorem d_RM_side_30 : decode prog_6_method_6_code 30 = .ok (.iaload, 1) := by decide +kernel
theorem d_RM_side_31 : decode prog_6_method_6_code 31 = .ok (.goto 16, 3) := by decide +kernel
theorem d_RM_side_34 : decode prog_6_method_6_code 34 = .ok (.aload_n 0, 1) := by decide +kernel
theorem d_RM_side_35 : decode prog_6_method_6_code 35 = .ok (.getfield 19, 3) := by decide +kernel
theorem d_RM_side_38 : decode prog_6_method_6_code 38 = .ok (.iconst 4, 1) := by decide +kernel
theorem d_RM_side_39 : decode prog_6_method_6_code 39 = .ok (.iload_n 1, 1) := by decide +kernel
theorem d_RM_side_40 : decode prog_6_method_6_code 40 = .ok (.bipush 64, 2) := by decide +kernel
theorem d_RM_side_42 : decode prog_6_method_6_code 42 = .ok (.isub, 1) := by decide +kernel
theorem d_RM_side_43 : decode prog_6_method_6_code 43 = .ok (.imul, 1) := by decide +kernel
theorem d_RM_side_44 : decode prog_6_method_6_code 44 = .ok (.iload_n 3, 1) := by decide +kernel
theorem d_RM_side_45 : decode prog_6_method_6_code 45 = .ok (.iadd, 1) := by decide +kernel
theorem d_RM_side_46 : decode prog_6_method_6_code 46 = .ok (.iaload, 1) := by decide +kernel
theorem d_RM_side_47 : decode prog_6_method_6_code 47 = .ok (.ireturn, 1) := by decide +kernel
theorem d_RM_left_0 : decode prog_6_method_7_code 0 = .ok (.aload_n 0, 1) := by decide +kernel
theorem d_RM_left_1 : decode prog_6_method_7_code 1 = .ok (.iload_n 1, 1) := by decide +kernel
theorem d_RM_left_2 : decode prog_6_method_7_code 2 = .ok (.iconst 0, 1) := by decide +kernel
theorem d_RM_left_3 : decode prog_6_method_7_code 3 = .ok (.invokevirtual 83, 3) := by decide +kernel
theorem d_RM_left_6 : decode prog_6_method_7_code 6 = .ok (.ireturn, 1) := by decide +kernel
theorem d_RM_upper_0 : decode prog_6_method_8_code 0 = .ok (.aload_n 0, 1) := by decide +kernel
theorem d_RM_upper_1 : decode prog_6_method_8_code 1 = .ok (.iload_n 1, 1) := by decide +kernel
theorem d_RM_upper_2 : decode prog_6_method_8_code 2 = .ok (.iconst 1, 1) := by decide +kernel
theorem d_RM_upper_3 : decode prog_6_method_8_code 3 = .ok (.invokevirtual 83, 3) := by decide +kernel
theorem d_RM_upper_6 : decode prog_6_method_8_code 6 = .ok (.ireturn, 1) := by decide +kernel
theorem d_RM_right_0 : decode prog_6_method_9_code 0 = .ok (.aload_n 0, 1) := by decide +kernel
theorem d_RM_right_1 : decode prog_6_method_9_code 1 = .ok (.iload_n 1, 1) := by decide +kernel
theorem d_RM_right_2 : decode prog_6_method_9_code 2 = .ok (.iconst 0, 1) := by decide +kernel
theorem d_RM_right_3 : decode prog_6_method_9_code 3 = .ok (.invokevirtual 83, 3) := by decide +kernel
theorem d_RM_right_6 : decode prog_6_method_9_code 6 = .ok (.aload_n 0, 1) := by decide +kernel
theorem d_RM_right_7 : decode prog_6_method_9_code 7 = .ok (.iload_n 1, 1) := by decide +kernel
theorem d_RM_right_8 : decode prog_6_method_9_code 8 = .ok (.iconst 2, 1) := by decide +kernel
theorem d_RM_right_9 : decode prog_6_method_9_code 9 = .ok (.invokevirtual 83, 3) := by decide +kernel
theorem d_RM_right_12 : decode prog_6_method_9_code 12 = .ok (.iadd, 1) := by decide +kernel
theorem d_RM_right_13 : decode prog_6_method_9_code 13 = .ok (.ireturn, 1) := by decide +kernel
theorem d_RM_lower_0 : decode prog_6_method_10_code 0 = .ok (.aload_n 0, 1) := by decide +kernel
theorem d_RM_lower_1 : decode prog_6_method_10_code 1 = .ok (.iload_n 1, 1) := by decide +kernel
theorem d_RM_lower_2 : decode prog_6_method_10_code 2 = .ok (.iconst 1, 1) := by decide +kernel
theorem d_RM_lower_3 : decode prog_6_method_10_code 3 = .ok (.invokevirtual 83, 3) := by decide +kernel
theorem d_RM_lower_6 : decode prog_6_method_10_code 6 = .ok (.aload_n 0, 1) := by decide +kernel
theorem d_RM_lower_7 : decode prog_6_method_10_code 7 = .ok (.iload_n 1, 1) := by decide +kernel
theorem d_RM_lower_8 : decode prog_6_method_10_code 8 = .ok (.iconst 3, 1) := by decide +kernel
theorem d_RM_lower_9 : decode prog_6_method_10_code 9 = .ok (.invokevirtual 83, 3) := by decide +kernel
theorem d_RM_lower_12 : decode prog_6_method_10_code 12 = .ok (.iadd, 1) := by decide +kernel
theorem d_RM_lower_13 : decode prog_6_method_10_code 13 = .ok (.ireturn, 1) := by decide +kernel
theorem d_RM_high_0 : decode prog_6_method_11_code 0 = .ok (.aload_n 0, 1) := by decide +kernel
theorem d_RM_high_1 : decode prog_6_method_11_code 1 = .ok (.iload_n 1, 1) := by decide +kernel
theorem d_RM_high_2 : decode prog_6_method_11_code 2 = .ok (.iconst 3, 1) := by decide +kernel
theorem d_RM_high_3 : decode prog_6_method_11_code 3 = .ok (.invokevirtual 83, 3) := by decide +kernel
theorem d_RM_high_6 : decode prog_6_method_11_code 6 = .ok (.ireturn, 1) := by decide +kernel
theorem d_RM_least_0 : decode prog_6_method_12_code 0 = .ok (.iload_n 0, 1) := by decide +kernel
theorem d_RM_least_1 : decode prog_6_method_12_code 1 = .ok (.iload_n 1, 1) := by decide +kernel
theorem d_RM_least_2 : decode prog_6_method_12_code 2 = .ok (.if_icmp .ge 7, 3) := by decide +kernel
theorem d_RM_least_5 : decode prog_6_method_12_code 5 = .ok (.iload_n 0, 1) := by decide +kernel
theorem d_RM_least_6 : decode prog_6_method_12_code 6 = .ok (.goto 4, 3) := by decide +kernel
theorem d_RM_least_9 : decode prog_6_method_12_code 9 = .ok (.iload_n 1, 1) := by decide +kernel
theorem d_RM_least_10 : decode prog_6_method_12_code 10 = .ok (.ireturn, 1) := by decide +kernel
theorem d_RM_most_0 : decode prog_6_method_13_code 0 = .ok (.iload_n 0, 1) := by decide +kernel
theorem d_RM_most_1 : decode prog_6_method_13_code 1 = .ok (.iload_n 1, 1) := by decide +kernel
theorem d_RM_most_2 : decode prog_6_method_13_code 2 = .ok (.if_icmp .le 7, 3) := by decide +kernel
theorem d_RM_most_5 : decode prog_6_method_13_code 5 = .ok (.iload_n 0, 1) := by decide +kernel
theorem d_RM_most_6 : decode prog_6_method_13_code 6 = .ok (.goto 4, 3) := by decide +kernel
theorem d_RM_most_9 : decode prog_6_method_13_code 9 = .ok (.iload_n 1, 1) := by decide +kernel
theorem d_RM_most_10 : decode prog_6_method_13_code 10 = .ok (.ireturn, 1) := by decide +kernel
theorem d_RM_areBoxesNear_0 : decode prog_6_method_14_code 0 = .ok (.aload_n 0, 1) := by decide +kernel
theorem d_RM_areBoxesNear_1 : decode prog_6_method_14_code 1 = .ok (.iload_n 1, 1) := by decide +kernel
theorem d_RM_areBoxesNear_2 : decode prog_6_method_14_code 2 = .ok (.invokevirtual 87, 3) := by decide +kernel
theorem d_RM_areBoxesNear_5 : decode prog_6_method_14_code 5 = .ok (.aload_n 0, 1) := by decide +kernel
theorem d_RM_areBoxesNear_6 : decode prog_6_method_14_code 6 = .ok (.iload_n 2, 1) := by decide +kernel
theorem d_RM_areBoxesNear_7 : decode prog_6_method_14_code 7 = .ok (.invokevirtual 87, 3) := by decide +kernel
theorem d_RM_areBoxesNear_10 : decode prog_6_method_14_code 10 = .ok (.invokestatic 91, 3) := by decide +kernel
theorem d_RM_areBoxesNear_13 : decode prog_6_method_14_code 13 = .ok (.aload_n 0, 1) := by decide +kernel
theorem d_RM_areBoxesNear_14 : decode prog_6_method_14_code 14 = .ok (.iload_n 1, 1) := by decide +kernel
theorem d_RM_areBoxesNear_15 : decode prog_6_method_14_code 15 = .ok (.invokevirtual 94, 3) := by decide +kernel
theorem d_RM_areBoxesNear_18 : decode prog_6_method_14_code 18 = .ok (.aload_n 0, 1) := by decide +kernel
theorem d_RM_areBoxesNear_19 : decode prog_6_method_14_code 19 = .ok (.iload_n 2, 1) := by decide +kernel
theorem d_RM_areBoxesNear_20 : decode prog_6_method_14_code 20 = .ok (.invokevirtual 94, 3) := by decide +kernel
theorem d_RM_areBoxesNear_23 : decode prog_6_method_14_code 23 = .ok (.invokestatic 97, 3) := by decide +kernel
theorem d_RM_areBoxesNear_26 : decode prog_6_method_14_code 26 = .ok (.isub, 1) := by decide +kernel
theorem d_RM_areBoxesNear_27 : decode prog_6_method_14_code 27 = .ok (.istore_n 3, 1) := by decide +kernel
theorem d_RM_areBoxesNear_28 : decode prog_6_method_14_code 28 = .ok (.aload_n 0, 1) := by decide +kernel
theorem d_RM_areBoxesNear_29 : decode prog_6_method_14_code 29 = .ok (.iload_n 1, 1) := by decide +kernel
theorem d_RM_areBoxesNear_30 : decode prog_6_method_14_code 30 = .ok (.invokevirtual 100, 3) := by decide +kernel
theorem d_RM_areBoxesNear_33 : decode prog_6_method_14_code 33 = .ok (.aload_n 0, 1) := by decide +kernel
theorem d_RM_areBoxesNear_34 : decode prog_6_method_14_code 34 = .ok (.iload_n 2, 1) := by decide +kernel
theorem d_RM_areBoxesNear_35 : decode prog_6_method_14_code 35 = .ok (.invokevirtual 100, 3) := by decide +kernel
theorem d_RM_areBoxesNear_38 : decode prog_6_method_14_code 38 = .ok (.invokestatic 97, 3) := by decide +kernel
theorem d_RM_areBoxesNear_41 : decode prog_6_method_14_code 41 = .ok (.aload_n 0, 1) := by decide +kernel
theorem d_RM_areBoxesNear_42 : decode prog_6_method_14_code 42 = .ok (.iload_n 1, 1) := by decide +kernel
theorem d_RM_areBoxesNear_43 : decode prog_6_method_14_code 43 = .ok (.invokevirtual 103, 3) := by decide +kernel
theorem d_RM_areBoxesNear_46 : decode prog_6_method_14_code 46 = .ok (.aload_n 0, 1) := by decide +kernel
theorem d_RM_areBoxesNear_47 : decode prog_6_method_14_code 47 = .ok (.iload_n 2, 1) := by decide +kernel
theorem d_RM_areBoxesNear_48 : decode prog_6_method_14_code 48 = .ok (.invokevirtual 103, 3) := by decide +kernel
theorem d_RM_areBoxesNear_51 : decode prog_6_method_14_code 51 = .ok (.invokestatic 91, 3) := by decide +kernel
theorem d_RM_areBoxesNear_54 : decode prog_6_method_14_code 54 = .ok (.isub, 1) := by decide +kernel
theorem d_RM_areBoxesNear_55 : decode prog_6_method_14_code 55 = .ok (.istore 4, 2) := by decide +kernel
theorem d_RM_areBoxesNear_57 : decode prog_6_method_14_code 57 = .ok (.iconst 2, 1) := by decide +kernel
theorem d_RM_areBoxesNear_58 : decode prog_6_method_14_code 58 = .ok (.iload_n 3, 1) := by decide +kernel
theorem d_RM_areBoxesNear_59 : decode prog_6_method_14_code 59 = .ok (.imul, 1) := by decide +kernel
theorem d_RM_areBoxesNear_60 : decode prog_6_method_14_code 60 = .ok (.aload_n 0, 1) := by decide +kernel
theorem d_RM_areBoxesNear_61 : decode prog_6_method_14_code 61 = .ok (.iload_n 1, 1) := by decide +kernel
theorem d_RM_areBoxesNear_62 : decode prog_6_method_14_code 62 = .ok (.invokevirtual 106, 3) := by decide +kernel
theorem d_RM_areBoxesNear_65 : decode prog_6_method_14_code 65 = .ok (.aload_n 0, 1) := by decide +kernel
theorem d_RM_areBoxesNear_66 : decode prog_6_method_14_code 66 = .ok (.iload_n 2, 1) := by decide +kernel
theorem d_RM_areBoxesNear_67 : decode prog_6_method_14_code 67 = .ok (.invokevirtual 106, 3) := by decide +kernel
theorem d_RM_areBoxesNear_70 : decode prog_6_method_14_code 70 = .ok (.invokestatic 91, 3) := by decide +kernel
theorem d_RM_areBoxesNear_73 : decode prog_6_method_14_code 73 = .ok (.if_icmp .lt 29, 3) := by decide +kernel
theorem d_RM_areBoxesNear_76 : decode prog_6_method_14_code 76 = .ok (.iconst 2, 1) := by decide +kernel
theorem d_RM_areBoxesNear_77 : decode prog_6_method_14_code 77 = .ok (.iload 4, 2) := by decide +kernel
theorem d_RM_areBoxesNear_79 : decode prog_6_method_14_code 79 = .ok (.imul, 1) := by decide +kernel
theorem d_RM_areBoxesNear_80 : decode prog_6_method_14_code 80 = .ok (.iconst 3, 1) := by decide +kernel
theorem d_RM_areBoxesNear_81 : decode prog_6_method_14_code 81 = .ok (.aload_n 0, 1) := by decide +kernel
theorem d_RM_areBoxesNear_82 : decode prog_6_method_14_code 82 = .ok (.iload_n 1, 1) := by decide +kernel
theorem d_RM_areBoxesNear_83 : decode prog_6_method_14_code 83 = .ok (.invokevirtual 106, 3) := by decide +kernel
theorem d_RM_areBoxesNear_86 : decode prog_6_method_14_code 86 = .ok (.aload_n 0, 1) := by decide +kernel
theorem d_RM_areBoxesNear_87 : decode prog_6_method_14_code 87 = .ok (.iload_n 2, 1) := by decide +kernel
theorem d_RM_areBoxesNear_88 : decode prog_6_method_14_code 88 = .ok (.invokevirtual 106, 3) := by decide +kernel
theorem d_RM_areBoxesNear_91 : decode prog_6_method_14_code 91 = .ok (.invokestatic 97, 3) := by decide +kernel
theorem d_RM_areBoxesNear_94 : decode prog_6_method_14_code 94 = .ok (.imul, 1) := by decide +kernel
theorem d_RM_areBoxesNear_95 : decode prog_6_method_14_code 95 = .ok (.if_icmp .gt 7, 3) := by decide +kernel
theorem d_RM_areBoxesNear_98 : decode prog_6_method_14_code 98 = .ok (.iconst 1, 1) := by decide +kernel
theorem d_RM_areBoxesNear_99 : decode prog_6_method_14_code 99 = .ok (.goto 4, 3) := by decide +kernel
theorem d_RM_areBoxesNear_102 : decode prog_6_method_14_code 102 = .ok (.iconst 0, 1) := by decide +kernel
theorem d_RM_areBoxesNear_103 : decode prog_6_method_14_code 103 = .ok (.ireturn, 1) := by decide +kernel
theorem d_RM_areLinesNear_0 : decode prog_6_method_15_code 0 = .ok (.aload_n 0, 1) := by decide +kernel
theorem d_RM_areLinesNear_1 : decode prog_6_method_15_code 1 = .ok (.iload_n 1, 1) := by decide +kernel
theorem d_RM_areLinesNear_2 : decode prog_6_method_15_code 2 = .ok (.invokevirtual 100, 3) := by decide +kernel
theorem d_RM_areLinesNear_5 : decode prog_6_method_15_code 5 = .ok (.aload_n 0, 1) := by decide +kernel
theorem d_RM_areLinesNear_6 : decode prog_6_method_15_code 6 = .ok (.iload_n 2, 1) := by decide +kernel
theorem d_RM_areLinesNear_7 : decode prog_6_method_15_code 7 = .ok (.invokevirtual 100, 3) := by decide +kernel
theorem d_RM_areLinesNear_10 : decode prog_6_method_15_code 10 = .ok (.isub, 1) := by decide +kernel
theorem d_RM_areLinesNear_11 : decode prog_6_method_15_code 11 = .ok (.istore_n 3, 1) := by decide +kernel
theorem d_RM_areLinesNear_12 : decode prog_6_method_15_code 12 = .ok (.aload_n 0, 1) := by decide +kernel
theorem d_RM_areLinesNear_13 : decode prog_6_method_15_code 13 = .ok (.iload_n 1, 1) := by decide +kernel
theorem d_RM_areLinesNear_14 : decode prog_6_method_15_code 14 = .ok (.invokevirtual 94, 3) := by decide +kernel
theorem d_RM_areLinesNear_17 : decode prog_6_method_15_code 17 = .ok (.aload_n 0, 1) := by decide +kernel
theorem d_RM_areLinesNear_18 : decode prog_6_method_15_code 18 = .ok (.iload_n 2, 1) := by decide +kernel
theorem d_RM_areLinesNear_19 : decode prog_6_method_15_code 19 = .ok (.invokevirtual 94, 3) := by decide +kernel
theorem d_RM_areLinesNear_22 : decode prog_6_method_15_code 22 = .ok (.invokestatic 97, 3) := by decide +kernel
theorem d_RM_areLinesNear_25 : decode prog_6_method_15_code 25 = .ok (.aload_n 0, 1) := by decide +kernel
theorem d_RM_areLinesNear_26 : decode prog_6_method_15_code 26 = .ok (.iload_n 1, 1) := by decide +kernel
theorem d_RM_areLinesNear_27 : decode prog_6_method_15_code 27 = .ok (.invokevirtual 87, 3) := by decide +kernel
theorem d_RM_areLinesNear_30 : decode prog_6_method_15_code 30 = .ok (.aload_n 0, 1) := by decide +kernel
theorem d_RM_areLinesNear_31 : decode prog_6_method_15_code 31 = .ok (.iload_n 2, 1) := by decide +kernel
theorem d_RM_areLinesNear_32 : decode prog_6_method_15_code 32 = .ok (.invokevirtual 87, 3) := by decide +kernel
theorem d_RM_areLinesNear_35 : decode prog_6_method_15_code 35 = .ok (.invokestatic 91, 3) := by decide +kernel
theorem d_RM_areLinesNear_38 : decode prog_6_method_15_code 38 = .ok (.isub, 1) := by decide +kernel
theorem d_RM_areLinesNear_39 : decode prog_6_method_15_code 39 = .ok (.istore 4, 2) := by decide +kernel
theorem d_RM_areLinesNear_41 : decode prog_6_method_15_code 41 = .ok (.iload_n 3, 1) := by decide +kernel
theorem d_RM_areLinesNear_42 : decode prog_6_method_15_code 42 = .ok (.ifCond .ge 8, 3) := by decide +kernel
theorem d_RM_areLinesNear_45 : decode prog_6_method_15_code 45 = .ok (.iload_n 3, 1) := by decide +kernel
theorem d_RM_areLinesNear_46 : decode prog_6_method_15_code 46 = .ok (.ineg, 1) := by decide +kernel
theorem d_RM_areLinesNear_47 : decode prog_6_method_15_code 47 = .ok (.goto 4, 3) := by decide +kernel
theorem d_RM_areLinesNear_50 : decode prog_6_method_15_code 50 = .ok (.iload_n 3, 1) := by decide +kernel
theorem d_RM_areLinesNear_51 : decode prog_6_method_15_code 51 = .ok (.aload_n 0, 1) := by decide +kernel
theorem d_RM_areLinesNear_52 : decode prog_6_method_15_code 52 = .ok (.iload_n 1, 1) := by decide +kernel
theorem d_RM_areLinesNear_53 : decode prog_6_method_15_code 53 = .ok (.invokevirtual 106, 3) := by decide +kernel
theorem d_RM_areLinesNear_56 : decode prog_6_method_15_code 56 = .ok (.aload_n 0, 1) := by decide +kernel
theorem d_RM_areLinesNear_57 : decode prog_6_method_15_code 57 = .ok (.iload_n 2, 1) := by decide +kernel
theorem d_RM_areLinesNear_58 : decode prog_6_method_15_code 58 = .ok (.invokevirtual 106, 3) := by decide +kernel
theorem d_RM_areLinesNear_61 : decode prog_6_method_15_code 61 = .ok (.invokestatic 97, 3) := by decide +kernel
theorem d_RM_areLinesNear_64 : decode prog_6_method_15_code 64 = .ok (.if_icmp .gt 27, 3) := by decide +kernel
theorem d_RM_areLinesNear_67 : decode prog_6_method_15_code 67 = .ok (.iload 4, 2) := by decide +kernel
theorem d_RM_areLinesNear_69 : decode prog_6_method_15_code 69 = .ok (.iconst 2, 1) := by decide +kernel
theorem d_RM_areLinesNear_70 : decode prog_6_method_15_code 70 = .ok (.aload_n 0, 1) := by decide +kernel
theorem d_RM_areLinesNear_71 : decode prog_6_method_15_code 71 = .ok (.iload_n 1, 1) := by decide +kernel
theorem d_RM_areLinesNear_72 : decode prog_6_method_15_code 72 = .ok (.invokevirtual 106, 3) := by decide +kernel
theorem d_RM_areLinesNear_75 : decode prog_6_method_15_code 75 = .ok (.aload_n 0, 1) := by decide +kernel
theorem d_RM_areLinesNear_76 : decode prog_6_method_15_code 76 = .ok (.iload_n 2, 1) := by decide +kernel
theorem d_RM_areLinesNear_77 : decode prog_6_method_15_code 77 = .ok (.invokevirtual 106, 3) := by decide +kernel
theorem d_RM_areLinesNear_80 : decode prog_6_method_15_code 80 = .ok (.invokestatic 91, 3) := by decide +kernel
theorem d_RM_areLinesNear_83 : decode prog_6_method_15_code 83 = .ok (.imul, 1) := by decide +kernel
theorem d_RM_areLinesNear_84 : decode prog_6_method_15_code 84 = .ok (.if_icmp .gt 7, 3) := by decide +kernel
theorem d_RM_areLinesNear_87 : decode prog_6_method_15_code 87 = .ok (.iconst 1, 1) := by decide +kernel
theorem d_RM_areLinesNear_88 : decode prog_6_method_15_code 88 = .ok (.goto 4, 3) := by decide +kernel
theorem d_RM_areLinesNear_91 : decode prog_6_method_15_code 91 = .ok (.iconst 0, 1) := by decide +kernel
theorem d_RM_areLinesNear_92 : decode prog_6_method_15_code 92 = .ok (.ireturn, 1) := by decide +kernel
theorem d_RM_findLines_0 : decode prog_6_method_16_code 0 = .ok (.aload_n 0, 1) := by decide +kernel
theorem d_RM_findLines_1 : decode prog_6_method_16_code 1 = .ok (.iload_n 1, 1) := by decide +kernel
theorem d_RM_findLines_2 : decode prog_6_method_16_code 2 = .ok (.putfield 79, 3) := by decide +kernel
theorem d_RM_findLines_5 : decode prog_6_method_16_code 5 = .ok (.iconst 0, 1) := by decide +kernel
theorem d_RM_findLines_6 : decode prog_6_method_16_code 6 = .ok (.istore_n 2, 1) := by decide +kernel
theorem d_RM_findLines_7 : decode prog_6_method_16_code 7 = .ok (.iload_n 2, 1) := by decide +kernel
theorem d_RM_findLines_8 : decode prog_6_method_16_code 8 = .ok (.aload_n 0, 1) := by decide +kernel
theorem d_RM_findLines_9 : decode prog_6_method_16_code 9 = .ok (.getfield 73, 3) := by decide +kernel
theorem d_RM_findLines_12 : decode prog_6_method_16_code 12 = .ok (.if_icmp .ge 16, 3) := by decide +kernel
theorem d_RM_findLines_15 : decode prog_6_method_16_code 15 = .ok (.aload_n 0, 1) := by decide +kernel
theorem d_RM_findLines_16 : decode prog_6_method_16_code 16 = .ok (.getfield 16, 3) := by decide +kernel
theorem d_RM_findLines_19 : decode prog_6_method_16_code 19 = .ok (.iload_n 2, 1) := by decide +kernel
theorem d_RM_findLines_20 : decode prog_6_method_16_code 20 = .ok (.iload_n 2, 1) := by decide +kernel
theorem d_RM_findLines_21 : decode prog_6_method_16_code 21 = .ok (.iastore, 1) := by decide +kernel
theorem d_RM_findLines_22 : decode prog_6_method_16_code 22 = .ok (.iinc 2 1, 3) := by decide +kernel
theorem d_RM_findLines_25 : decode prog_6_method_16_code 25 = .ok (.goto (-18), 3) := by decide +kernel
theorem d_RM_findLines_28 : decode prog_6_method_16_code 28 = .ok (.iconst 0, 1) := by decide +kernel
theorem d_RM_findLines_29 : decode prog_6_method_16_code 29 = .ok (.istore_n 2, 1) := by decide +kernel
theorem d_RM_findLines_30 : decode prog_6_method_16_code 30 = .ok (.iload_n 2, 1) := by decide +kernel
theorem d_RM_findLines_31 : decode prog_6_method_16_code 31 = .ok (.aload_n 0, 1) := by decide +kernel
theorem d_RM_findLines_32 : decode prog_6_method_16_code 32 = .ok (.getfield 73, 3) := by decide +kernel
theorem d_RM_findLines_35 : decode prog_6_method_16_code 35 = .ok (.if_icmp .ge 91, 3) := by decide +kernel
theorem d_RM_findLines_38 : decode prog_6_method_16_code 38 = .ok (.iconst 0, 1) := by decide +kernel
theorem d_RM_findLines_39 : decode prog_6_method_16_code 39 = .ok (.istore_n 3, 1) := by decide +kernel
theorem d_RM_findLines_40 : decode prog_6_method_16_code 40 = .ok (.iload_n 3, 1) := by decide +kernel
theorem d_RM_findLines_41 : decode prog_6_method_16_code 41 = .ok (.aload_n 0, 1) := by decide +kernel
theorem d_RM_findLines_42 : decode prog_6_method_16_code 42 = .ok (.getfield 73, 3) := by decide +kernel
theorem d_RM_findLines_45 : decode prog_6_method_16_code 45 = .ok (.if_icmp .ge 75, 3) := by decide +kernel
theorem d_RM_findLines_48 : decode prog_6_method_16_code 48 = .ok (.iconst 0, 1) := by decide +kernel
theorem d_RM_findLines_49 : decode prog_6_method_16_code 49 = .ok (.istore 4, 2) := by decide +kernel
theorem d_RM_findLines_51 : decode prog_6_method_16_code 51 = .ok (.iload 4, 2) := by decide +kernel
theorem d_RM_findLines_53 : decode prog_6_method_16_code 53 = .ok (.aload_n 0, 1) := by decide +kernel
theorem d_RM_findLines_54 : decode prog_6_method_16_code 54 = .ok (.getfield 73, 3) := by decide +kernel
theorem d_RM_findLines_57 : decode prog_6_method_16_code 57 = .ok (.if_icmp .ge 57, 3) := by decide +kernel
theorem d_RM_findLines_60 : decode prog_6_method_16_code 60 = .ok (.aload_n 0, 1) := by decide +kernel
theorem d_RM_findLines_61 : decode prog_6_method_16_code 61 = .ok (.getfield 16, 3) := by decide +kernel
theorem d_RM_findLines_64 : decode prog_6_method_16_code 64 = .ok (.iload_n 3, 1) := by decide +kernel
theorem d_RM_findLines_65 : decode prog_6_method_16_code 65 = .ok (.aload_n 0, 1) := by decide +kernel
theorem d_RM_findLines_66 : decode prog_6_method_16_code 66 = .ok (.getfield 16, 3) := by decide +kernel
theorem d_RM_findLines_69 : decode prog_6_method_16_code 69 = .ok (.iload 4, 2) := by decide +kernel
theorem d_RM_findLines_71 : decode prog_6_method_16_code 71 = .ok (.iaload, 1) := by decide +kernel
theorem d_RM_findLines_72 : decode prog_6_method_16_code 72 = .ok (.aload_n 0, 1) := by decide +kernel
theorem d_RM_findLines_73 : decode prog_6_method_16_code 73 = .ok (.getfield 16, 3) := by decide +kernel
theorem d_RM_findLines_76 : decode prog_6_method_16_code 76 = .ok (.iload_n 3, 1) := by decide +kernel
theorem d_RM_findLines_77 : decode prog_6_method_16_code 77 = .ok (.iaload, 1) := by decide +kernel
theorem d_RM_findLines_78 : decode prog_6_method_16_code 78 = .ok (.if_icmp .ge 23, 3) := by decide +kernel
theorem d_RM_findLines_81 : decode prog_6_method_16_code 81 = .ok (.aload_n 0, 1) := by decide +kernel
theorem d_RM_findLines_82 : decode prog_6_method_16_code 82 = .ok (.iload_n 3, 1) := by decide +kernel
theorem d_RM_findLines_83 : decode prog_6_method_16_code 83 = .ok (.iload 4, 2) := by decide +kernel
theorem d_RM_findLines_85 : decode prog_6_method_16_code 85 = .ok (.invokevirtual 109, 3) := by decide +kernel
theorem d_RM_findLines_88 : decode prog_6_method_16_code 88 = .ok (.ifCond .eq 13, 3) := by decide +kernel
theorem d_RM_findLines_91 : decode prog_6_method_16_code 91 = .ok (.aload_n 0, 1) := by decide +kernel
theorem d_RM_findLines_92 : decode prog_6_method_16_code 92 = .ok (.getfield 16, 3) := by decide +kernel
theorem d_RM_findLines_95 : decode prog_6_method_16_code 95 = .ok (.iload 4, 2) := by decide +kernel
theorem d_RM_findLines_97 : decode prog_6_method_16_code 97 = .ok (.iaload, 1) := by decide +kernel
theorem d_RM_findLines_98 : decode prog_6_method_16_code 98 = .ok (.goto 9, 3) := by decide +kernel
theorem d_RM_findLines_101 : decode prog_6_method_16_code 101 = .ok (.aload_n 0, 1) := by decide +kernel
theorem d_RM_findLines_102 : decode prog_6_method_16_code 102 = .ok (.getfield 16, 3) := by decide +kernel
theorem d_RM_findLines_105 : decode prog_6_method_16_code 105 = .ok (.iload_n 3, 1) := by decide +kernel
theorem d_RM_findLines_106 : decode prog_6_method_16_code 106 = .ok (.iaload, 1) := by decide +kernel
theorem d_RM_findLines_107 : decode prog_6_method_16_code 107 = .ok (.iastore, 1) := by decide +kernel
theorem d_RM_findLines_108 : decode prog_6_method_16_code 108 = .ok (.iinc 4 1, 3) := by decide +kernel
theorem d_RM_findLines_111 : decode prog_6_method_16_code 111 = .ok (.goto (-60), 3) := by decide +kernel
theorem d_RM_findLines_114 : decode prog_6_method_16_code 114 = .ok (.iinc 3 1, 3) := by decide +kernel
theorem d_RM_findLines_117 : decode prog_6_method_16_code 117 = .ok (.goto (-77), 3) := by decide +kernel
theorem d_RM_findLines_120 : decode prog_6_method_16_code 120 = .ok (.iinc 2 1, 3) := by decide +kernel
theorem d_RM_findLines_123 : decode prog_6_method_16_code 123 = .ok (.goto (-93), 3) := by decide +kernel
theorem d_RM_findLines_126 : decode prog_6_method_16_code 126 = .ok (.aload_n 0, 1) := by decide +kernel
theorem d_RM_findLines_127 : decode prog_6_method_16_code 127 = .ok (.iconst 0, 1) := by decide +kernel
theorem d_RM_findLines_128 : decode prog_6_method_16_code 128 = .ok (.putfield 113, 3) := by decide +kernel
theorem d_RM_findLines_131 : decode prog_6_method_16_code 131 = .ok (.iconst 0, 1) := by decide +kernel
theorem d_RM_findLines_132 : decode prog_6_method_16_code 132 = .ok (.istore_n 2, 1) := by decide +kernel
theorem d_RM_findLines_133 : decode prog_6_method_16_code 133 = .ok (.iload_n 2, 1) := by decide +kernel
theorem d_RM_findLines_134 : decode prog_6_method_16_code 134 = .ok (.aload_n 0, 1) := by decide +kernel
theorem d_RM_findLines_135 : decode prog_6_method_16_code 135 = .ok (.getfield 73, 3) := by decide +kernel
theorem d_RM_findLines_138 : decode prog_6_method_16_code 138 = .ok (.if_icmp .ge 39, 3) := by decide +kernel
theorem d_RM_findLines_141 : decode prog_6_method_16_code 141 = .ok (.aload_n 0, 1) := by decide +kernel
theorem d_RM_findLines_142 : decode prog_6_method_16_code 142 = .ok (.getfield 16, 3) := by decide +kernel
theorem d_RM_findLines_145 : decode prog_6_method_16_code 145 = .ok (.iload_n 2, 1) := by decide +kernel
theorem d_RM_findLines_146 : decode prog_6_method_16_code 146 = .ok (.iaload, 1) := by decide +kernel
theorem d_RM_findLines_147 : decode prog_6_method_16_code 147 = .ok (.iload_n 2, 1) := by decide +kernel
theorem d_RM_findLines_148 : decode prog_6_method_16_code 148 = .ok (.if_icmp .ne 23, 3) := by decide +kernel
theorem d_RM_findLines_151 : decode prog_6_method_16_code 151 = .ok (.aload_n 0, 1) := by decide +kernel
theorem d_RM_findLines_152 : decode prog_6_method_16_code 152 = .ok (.getfield 22, 3) := by decide +kernel
theorem d_RM_findLines_155 : decode prog_6_method_16_code 155 = .ok (.aload_n 0, 1) := by decide +kernel
theorem d_RM_findLines_156 : decode prog_6_method_16_code 156 = .ok (.getfield 113, 3) := by decide +kernel
theorem d_RM_findLines_159 : decode prog_6_method_16_code 159 = .ok (.iload_n 2, 1) := by decide +kernel
theorem d_RM_findLines_160 : decode prog_6_method_16_code 160 = .ok (.iastore, 1) := by decide +kernel
theorem d_RM_findLines_161 : decode prog_6_method_16_code 161 = .ok (.aload_n 0, 1) := by decide +kernel
theorem d_RM_findLines_162 : decode prog_6_method_16_code 162 = .ok (.dup, 1) := by decide +kernel
theorem d_RM_findLines_163 : decode prog_6_method_16_code 163 = .ok (.getfield 113, 3) := by decide +kernel
theorem d_RM_findLines_166 : decode prog_6_method_16_code 166 = .ok (.iconst 1, 1) := by decide +kernel
theorem d_RM_findLines_167 : decode prog_6_method_16_code 167 = .ok (.iadd, 1) := by decide +kernel
theorem d_RM_findLines_168 : decode prog_6_method_16_code 168 = .ok (.putfield 113, 3) := by decide +kernel
theorem d_RM_findLines_171 : decode prog_6_method_16_code 171 = .ok (.iinc 2 1, 3) := by decide +kernel
theorem d_RM_findLines_174 : decode prog_6_method_16_code 174 = .ok (.goto (-41), 3) := by decide +kernel
theorem d_RM_findLines_177 : decode prog_6_method_16_code 177 = .ok (.aload_n 0, 1) := by decide +kernel
theorem d_RM_findLines_178 : decode prog_6_method_16_code 178 = .ok (.getfield 113, 3) := by decide +kernel
theorem d_RM_findLines_181 : decode prog_6_method_16_code 181 = .ok (.ireturn, 1) := by decide +kernel
theorem d_RM_join_0 : decode prog_6_method_17_code 0 = .ok (.iload 6, 2) := by decide +kernel
theorem d_RM_join_2 : decode prog_6_method_17_code 2 = .ok (.ifCond .eq 10, 3) := by decide +kernel
theorem d_RM_join_5 : decode prog_6_method_17_code 5 = .ok (.iload_n 2, 1) := by decide +kernel
theorem d_RM_join_6 : decode prog_6_method_17_code 6 = .ok (.iload 4, 2) := by decide +kernel
theorem d_RM_join_8 : decode prog_6_method_17_code 8 = .ok (.iadd, 1) := by decide +kernel
theorem d_RM_join_9 : decode prog_6_method_17_code 9 = .ok (.goto 23, 3) := by decide +kernel
theorem d_RM_join_12 : decode prog_6_method_17_code 12 = .ok (.aload_n 0, 1) := by decide +kernel
theorem d_RM_join_13 : decode prog_6_method_17_code 13 = .ok (.iconst 4, 1) := by decide +kernel
theorem d_RM_join_14 : decode prog_6_method_17_code 14 = .ok (.iload_n 1, 1) := by decide +kernel
theorem d_RM_join_15 : decode prog_6_method_17_code 15 = .ok (.imul, 1) := by decide +kernel
theorem d_RM_join_16 : decode prog_6_method_17_code 16 = .ok (.iaload, 1) := by decide +kernel
theorem d_RM_join_17 : decode prog_6_method_17_code 17 = .ok (.aload_n 0, 1) := by decide +kernel
theorem d_RM_join_18 : decode prog_6_method_17_code 18 = .ok (.iconst 4, 1) := by decide +kernel
theorem d_RM_join_19 : decode prog_6_method_17_code 19 = .ok (.iload_n 1, 1) := by decide +kernel
theorem d_RM_join_20 : decode prog_6_method_17_code 20 = .ok (.imul, 1) := by decide +kernel
theorem d_RM_join_21 : decode prog_6_method_17_code 21 = .ok (.iconst 2, 1) := by decide +kernel
theorem d_RM_join_22 : decode prog_6_method_17_code 22 = .ok (.iadd, 1) := by decide +kernel
theorem d_RM_join_23 : decode prog_6_method_17_code 23 = .ok (.iaload, 1) := by decide +kernel
theorem d_RM_join_24 : decode prog_6_method_17_code 24 = .ok (.iadd, 1) := by decide +kernel
theorem d_RM_join_25 : decode prog_6_method_17_code 25 = .ok (.iload_n 2, 1) := by decide +kernel
theorem d_RM_join_26 : decode prog_6_method_17_code 26 = .ok (.iload 4, 2) := by decide +kernel
theorem d_RM_join_28 : decode prog_6_method_17_code 28 = .ok (.iadd, 1) := by decide +kernel
theorem d_RM_join_29 : decode prog_6_method_17_code 29 = .ok (.invokestatic 97, 3) := by decide +kernel
theorem d_RM_join_32 : decode prog_6_method_17_code 32 = .ok (.istore 7, 2) := by decide +kernel
theorem d_RM_join_34 : decode prog_6_method_17_code 34 = .ok (.iload 6, 2) := by decide +kernel
theorem d_RM_join_36 : decode prog_6_method_17_code 36 = .ok (.ifCond .eq 10, 3) := by decide +kernel
theorem d_RM_join_39 : decode prog_6_method_17_code 39 = .ok (.iload_n 3, 1) := by decide +kernel
theorem d_RM_join_40 : decode prog_6_method_17_code 40 = .ok (.iload 5, 2) := by decide +kernel
theorem d_RM_join_42 : decode prog_6_method_17_code 42 = .ok (.iadd, 1) := by decide +kernel
theorem d_RM_join_43 : decode prog_6_method_17_code 43 = .ok (.goto 25, 3) := by decide +kernel
theorem d_RM_join_46 : decode prog_6_method_17_code 46 = .ok (.aload_n 0, 1) := by decide +kernel
theorem d_RM_join_47 : decode prog_6_method_17_code 47 = .ok (.iconst 4, 1) := by decide +kernel
theorem d_RM_join_48 : decode prog_6_method_17_code 48 = .ok (.iload_n 1, 1) := by decide +kernel
theorem d_RM_join_49 : decode prog_6_method_17_code 49 = .ok (.imul, 1) := by decide +kernel
theorem d_RM_join_50 : decode prog_6_method_17_code 50 = .ok (.iconst 1, 1) := by decide +kernel
theorem d_RM_join_51 : decode prog_6_method_17_code 51 = .ok (.iadd, 1) := by decide +kernel
theorem d_RM_join_52 : decode prog_6_method_17_code 52 = .ok (.iaload, 1) := by decide +kernel
theorem d_RM_join_53 : decode prog_6_method_17_code 53 = .ok (.aload_n 0, 1) := by decide +kernel
theorem d_RM_join_54 : decode prog_6_method_17_code 54 = .ok (.iconst 4, 1) := by decide +kernel
theorem d_RM_join_55 : decode prog_6_method_17_code 55 = .ok (.iload_n 1, 1) := by decide +kernel
theorem d_RM_join_56 : decode prog_6_method_17_code 56 = .ok (.imul, 1) := by decide +kernel
theorem d_RM_join_57 : decode prog_6_method_17_code 57 = .ok (.iconst 3, 1) := by decide +kernel
theorem d_RM_join_58 : decode prog_6_method_17_code 58 = .ok (.iadd, 1) := by decide +kernel
theorem d_RM_join_59 : decode prog_6_method_17_code 59 = .ok (.iaload, 1) := by decide +kernel
theorem d_RM_join_60 : decode prog_6_method_17_code 60 = .ok (.iadd, 1) := by decide +kernel
theorem d_RM_join_61 : decode prog_6_method_17_code 61 = .ok (.iload_n 3, 1) := by decide +kernel
theorem d_RM_join_62 : decode prog_6_method_17_code 62 = .ok (.iload 5, 2) := by decide +kernel
theorem d_RM_join_64 : decode prog_6_method_17_code 64 = .ok (.iadd, 1) := by decide +kernel
theorem d_RM_join_65 : decode prog_6_method_17_code 65 = .ok (.invokestatic 97, 3) := by decide +kernel
theorem d_RM_join_68 : decode prog_6_method_17_code 68 = .ok (.istore 8, 2) := by decide +kernel
theorem d_RM_join_70 : decode prog_6_method_17_code 70 = .ok (.aload_n 0, 1) := by decide +kernel
theorem d_RM_join_71 : decode prog_6_method_17_code 71 = .ok (.iconst 4, 1) := by decide +kernel
theorem d_RM_join_72 : decode prog_6_method_17_code 72 = .ok (.iload_n 1, 1) := by decide +kernel
theorem d_RM_join_73 : decode prog_6_method_17_code 73 = .ok (.imul, 1) := by decide +kernel
theorem d_RM_join_74 : decode prog_6_method_17_code 74 = .ok (.iload 6, 2) := by decide +kernel
theorem d_RM_join_76 : decode prog_6_method_17_code 76 = .ok (.ifCond .eq 7, 3) := by decide +kernel
theorem d_RM_join_79 : decode prog_6_method_17_code 79 = .ok (.iload_n 2, 1) := by decide +kernel
theorem d_RM_join_80 : decode prog_6_method_17_code 80 = .ok (.goto 12, 3) := by decide +kernel
theorem d_RM_join_83 : decode prog_6_method_17_code 83 = .ok (.aload_n 0, 1) := by decide +kernel
theorem d_RM_join_84 : decode prog_6_method_17_code 84 = .ok (.iconst 4, 1) := by decide +kernel
theorem d_RM_join_85 : decode prog_6_method_17_code 85 = .ok (.iload_n 1, 1) := by decide +kernel
theorem d_RM_join_86 : decode prog_6_method_17_code 86 = .ok (.imul, 1) := by decide +kernel
theorem d_RM_join_87 : decode prog_6_method_17_code 87 = .ok (.iaload, 1) := by decide +kernel
theorem d_RM_join_88 : decode prog_6_method_17_code 88 = .ok (.iload_n 2, 1) := by decide +kernel
theorem d_RM_join_89 : decode prog_6_method_17_code 89 = .ok (.invokestatic 91, 3) := by decide +kernel
theorem d_RM_join_92 : decode prog_6_method_17_code 92 = .ok (.iastore, 1) := by decide +kernel
theorem d_RM_join_93 : decode prog_6_method_17_code 93 = .ok (.aload_n 0, 1) := by decide +kernel
theorem d_RM_join_94 : decode prog_6_method_17_code 94 = .ok (.iconst 4, 1) := by decide +kernel
theorem d_RM_join_95 : decode prog_6_method_17_code 95 = .ok (.iload_n 1, 1) := by decide +kernel
theorem d_RM_join_96 : decode prog_6_method_17_code 96 = .ok (.imul, 1) := by decide +kernel
theorem d_RM_join_97 : decode prog_6_method_17_code 97 = .ok (.iconst 1, 1) := by decide +kernel
theorem d_RM_join_98 : decode prog_6_method_17_code 98 = .ok (.iadd, 1) := by decide +kernel
theorem d_RM_join_99 : decode prog_6_method_17_code 99 = .ok (.iload 6, 2) := by decide +kernel
theorem d_RM_join_101 : decode prog_6_method_17_code 101 = .ok (.ifCond .eq 7, 3) := by decide +kernel
theorem d_RM_join_104 : decode prog_6_method_17_code 104 = .ok (.iload_n 3, 1) := by decide +kernel
theorem d_RM_join_105 : decode prog_6_method_17_code 105 = .ok (.goto 14, 3) := by decide +kernel
theorem d_RM_join_108 : decode prog_6_method_17_code 108 = .ok (.aload_n 0, 1) := by decide +kernel
theorem d_RM_join_109 : decode prog_6_method_17_code 109 = .ok (.iconst 4, 1) := by decide +kernel
theorem d_RM_join_110 : decode prog_6_method_17_code 110 = .ok (.iload_n 1, 1) := by decide +kernel
theorem d_RM_join_111 : decode prog_6_method_17_code 111 = .ok (.imul, 1) := by decide +kernel
theorem d_RM_join_112 : decode prog_6_method_17_code 112 = .ok (.iconst 1, 1) := by decide +kernel
theorem d_RM_join_113 : decode prog_6_method_17_code 113 = .ok (.iadd, 1) := by decide +kernel
theorem d_RM_join_114 : decode prog_6_method_17_code 114 = .ok (.iaload, 1) := by decide +kernel
theorem d_RM_join_115 : decode prog_6_method_17_code 115 = .ok (.iload_n 3, 1) := by decide +kernel
theorem d_RM_join_116 : decode prog_6_method_17_code 116 = .ok (.invokestatic 91, 3) := by decide +kernel
theorem d_RM_join_119 : decode prog_6_method_17_code 119 = .ok (.iastore, 1) := by decide +kernel
theorem d_RM_join_120 : decode prog_6_method_17_code 120 = .ok (.aload_n 0, 1) := by decide +kernel
theorem d_RM_join_121 : decode prog_6_method_17_code 121 = .ok (.iconst 4, 1) := by decide +kernel
theorem d_RM_join_122 : decode prog_6_method_17_code 122 = .ok (.iload_n 1, 1) := by decide +kernel
theorem d_RM_join_123 : decode prog_6_method_17_code 123 = .ok (.imul, 1) := by decide +kernel
theorem d_RM_join_124 : decode prog_6_method_17_code 124 = .ok (.iconst 2, 1) := by decide +kernel
theorem d_RM_join_125 : decode prog_6_method_17_code 125 = .ok (.iadd, 1) := by decide +kernel
theorem d_RM_join_126 : decode prog_6_method_17_code 126 = .ok (.iload 7, 2) := by decide +kernel
theorem d_RM_join_128 : decode prog_6_method_17_code 128 = .ok (.aload_n 0, 1) := by decide +kernel
theorem d_RM_join_129 : decode prog_6_method_17_code 129 = .ok (.iconst 4, 1) := by decide +kernel
theorem d_RM_join_130 : decode prog_6_method_17_code 130 = .ok (.iload_n 1, 1) := by decide +kernel
theorem d_RM_join_131 : decode prog_6_method_17_code 131 = .ok (.imul, 1) := by decide +kernel
theorem d_RM_join_132 : decode prog_6_method_17_code 132 = .ok (.iaload, 1) := by decide +kernel
theorem d_RM_join_133 : decode prog_6_method_17_code 133 = .ok (.isub, 1) := by decide +kernel
theorem d_RM_join_134 : decode prog_6_method_17_code 134 = .ok (.iastore, 1) := by decide +kernel
theorem d_RM_join_135 : decode prog_6_method_17_code 135 = .ok (.aload_n 0, 1) := by decide +kernel
theorem d_RM_join_136 : decode prog_6_method_17_code 136 = .ok (.iconst 4, 1) := by decide +kernel
theorem d_RM_join_137 : decode prog_6_method_17_code 137 = .ok (.iload_n 1, 1) := by decide +kernel
theorem d_RM_join_138 : decode prog_6_method_17_code 138 = .ok (.imul, 1) := by decide +kernel
theorem d_RM_join_139 : decode prog_6_method_17_code 139 = .ok (.iconst 3, 1) := by decide +kernel
theorem d_RM_join_140 : decode prog_6_method_17_code 140 = .ok (.iadd, 1) := by decide +kernel
theorem d_RM_join_141 : decode prog_6_method_17_code 141 = .ok (.iload 8, 2) := by decide +kernel
theorem d_RM_join_143 : decode prog_6_method_17_code 143 = .ok (.aload_n 0, 1) := by decide +kernel
theorem d_RM_join_144 : decode prog_6_method_17_code 144 = .ok (.iconst 4, 1) := by decide +kernel
theorem d_RM_join_145 : decode prog_6_method_17_code 145 = .ok (.iload_n 1, 1) := by decide +kernel
theorem d_RM_join_146 : decode prog_6_method_17_code 146 = .ok (.imul, 1) := by decide +kernel
theorem d_RM_join_147 : decode prog_6_method_17_code 147 = .ok (.iconst 1, 1) := by decide +kernel
theorem d_RM_join_148 : decode prog_6_method_17_code 148 = .ok (.iadd, 1) := by decide +kernel
theorem d_RM_join_149 : decode prog_6_method_17_code 149 = .ok (.iaload, 1) := by decide +kernel
theorem d_RM_join_150 : decode prog_6_method_17_code 150 = .ok (.isub, 1) := by decide +kernel
theorem d_RM_join_151 : decode prog_6_method_17_code 151 = .ok (.iastore, 1) := by decide +kernel
theorem d_RM_join_152 : decode prog_6_method_17_code 152 = .ok (.return_, 1) := by decide +kernel
theorem d_RM_rectangles_0 : decode prog_6_method_18_code 0 = .ok (.iconst 0, 1) := by decide +kernel
theorem d_RM_rectangles_1 : decode prog_6_method_18_code 1 = .ok (.istore_n 1, 1) := by decide +kernel
theorem d_RM_rectangles_2 : decode prog_6_method_18_code 2 = .ok (.iload_n 1, 1) := by decide +kernel
theorem d_RM_rectangles_3 : decode prog_6_method_18_code 3 = .ok (.aload_n 0, 1) := by decide +kernel
theorem d_RM_rectangles_4 : decode prog_6_method_18_code 4 = .ok (.getfield 113, 3) := by decide +kernel
theorem d_RM_rectangles_7 : decode prog_6_method_18_code 7 = .ok (.if_icmp .ge 101, 3) := by decide +kernel
theorem d_RM_rectangles_10 : decode prog_6_method_18_code 10 = .ok (.iconst 0, 1) := by decide +kernel
theorem d_RM_rectangles_11 : decode prog_6_method_18_code 11 = .ok (.istore_n 2, 1) := by decide +kernel
theorem d_RM_rectangles_12 : decode prog_6_method_18_code 12 = .ok (.iload_n 2, 1) := by decide +kernel
theorem d_RM_rectangles_13 : decode prog_6_method_18_code 13 = .ok (.aload_n 0, 1) := by decide +kernel
theorem d_RM_rectangles_14 : decode prog_6_method_18_code 14 = .ok (.getfield 73, 3) := by decide +kernel
theorem d_RM_rectangles_17 : decode prog_6_method_18_code 17 = .ok (.if_icmp .ge 85, 3) := by decide +kernel
theorem d_RM_rectangles_20 : decode prog_6_method_18_code 20 = .ok (.aload_n 0, 1) := by decide +kernel
theorem d_RM_rectangles_21 : decode prog_6_method_18_code 21 = .ok (.getfield 16, 3) := by decide +kernel
theorem d_RM_rectangles_24 : decode prog_6_method_18_code 24 = .ok (.iload_n 2, 1) := by decide +kernel
theorem d_RM_rectangles_25 : decode prog_6_method_18_code 25 = .ok (.iaload, 1) := by decide +kernel
theorem d_RM_rectangles_26 : decode prog_6_method_18_code 26 = .ok (.aload_n 0, 1) := by decide +kernel
theorem d_RM_rectangles_27 : decode prog_6_method_18_code 27 = .ok (.getfield 22, 3) := by decide +kernel
theorem d_RM_rectangles_30 : decode prog_6_method_18_code 30 = .ok (.iload_n 1, 1) := by decide +kernel
theorem d_RM_rectangles_31 : decode prog_6_method_18_code 31 = .ok (.iaload, 1) := by decide +kernel
theorem d_RM_rectangles_32 : decode prog_6_method_18_code 32 = .ok (.if_icmp .ne 64, 3) := by decide +kernel
theorem d_RM_rectangles_35 : decode prog_6_method_18_code 35 = .ok (.aload_n 0, 1) := by decide +kernel
theorem d_RM_rectangles_36 : decode prog_6_method_18_code 36 = .ok (.getfield 19, 3) := by decide +kernel
theorem d_RM_rectangles_39 : decode prog_6_method_18_code 39 = .ok (.iload_n 1, 1) := by decide +kernel
theorem d_RM_rectangles_40 : decode prog_6_method_18_code 40 = .ok (.aload_n 0, 1) := by decide +kernel
theorem d_RM_rectangles_41 : decode prog_6_method_18_code 41 = .ok (.getfield 7, 3) := by decide +kernel
theorem d_RM_rectangles_44 : decode prog_6_method_18_code 44 = .ok (.iconst 4, 1) := by decide +kernel
theorem d_RM_rectangles_45 : decode prog_6_method_18_code 45 = .ok (.iload_n 2, 1) := by decide +kernel
theorem d_RM_rectangles_46 : decode prog_6_method_18_code 46 = .ok (.imul, 1) := by decide +kernel
theorem d_RM_rectangles_47 : decode prog_6_method_18_code 47 = .ok (.iaload, 1) := by decide +kernel
theorem d_RM_rectangles_48 : decode prog_6_method_18_code 48 = .ok (.aload_n 0, 1) := by decide +kernel
theorem d_RM_rectangles_49 : decode prog_6_method_18_code 49 = .ok (.getfield 7, 3) := by decide +kernel
theorem d_RM_rectangles_52 : decode prog_6_method_18_code 52 = .ok (.iconst 4, 1) := by decide +kernel
theorem d_RM_rectangles_53 : decode prog_6_method_18_code 53 = .ok (.iload_n 2, 1) := by decide +kernel
theorem d_RM_rectangles_54 : decode prog_6_method_18_code 54 = .ok (.imul, 1) := by decide +kernel
theorem d_RM_rectangles_55 : decode prog_6_method_18_code 55 = .ok (.iconst 1, 1) := by decide +kernel
theorem d_RM_rectangles_56 : decode prog_6_method_18_code 56 = .ok (.iadd, 1) := by decide +kernel
theorem d_RM_rectangles_57 : decode prog_6_method_18_code 57 = .ok (.iaload, 1) := by decide +kernel
theorem d_RM_rectangles_58 : decode prog_6_method_18_code 58 = .ok (.aload_n 0, 1) := by decide +kernel
theorem d_RM_rectangles_59 : decode prog_6_method_18_code 59 = .ok (.getfield 7, 3) := by decide +kernel
theorem d_RM_rectangles_62 : decode prog_6_method_18_code 62 = .ok (.iconst 4, 1) := by decide +kernel
theorem d_RM_rectangles_63 : decode prog_6_method_18_code 63 = .ok (.iload_n 2, 1) := by decide +kernel
theorem d_RM_rectangles_64 : decode prog_6_method_18_code 64 = .ok (.imul, 1) := by decide +kernel
theorem d_RM_rectangles_65 : decode prog_6_method_18_code 65 = .ok (.iconst 2, 1) := by decide +kernel
theorem d_RM_rectangles_66 : decode prog_6_method_18_code 66 = .ok (.iadd, 1) := by decide +kernel
theorem d_RM_rectangles_67 : decode prog_6_method_18_code 67 = .ok (.iaload, 1) := by decide +kernel
theorem d_RM_rectangles_68 : decode prog_6_method_18_code 68 = .ok (.aload_n 0, 1) := by decide +kernel
theorem d_RM_rectangles_69 : decode prog_6_method_18_code 69 = .ok (.getfield 7, 3) := by decide +kernel
theorem d_RM_rectangles_72 : decode prog_6_method_18_code 72 = .ok (.iconst 4, 1) := by decide +kernel
theorem d_RM_rectangles_73 : decode prog_6_method_18_code 73 = .ok (.iload_n 2, 1) := by decide +kernel
theorem d_RM_rectangles_74 : decode prog_6_method_18_code 74 = .ok (.imul, 1) := by decide +kernel
theorem d_RM_rectangles_75 : decode prog_6_method_18_code 75 = .ok (.iconst 3, 1) := by decide +kernel
theorem d_RM_rectangles_76 : decode prog_6_method_18_code 76 = .ok (.iadd, 1) := by decide +kernel
theorem d_RM_rectangles_77 : decode prog_6_method_18_code 77 = .ok (.iaload, 1) := by decide +kernel
theorem d_RM_rectangles_78 : decode prog_6_method_18_code 78 = .ok (.iload_n 2, 1) := by decide +kernel
theorem d_RM_rectangles_79 : decode prog_6_method_18_code 79 = .ok (.aload_n 0, 1) := by decide +kernel
theorem d_RM_rectangles_80 : decode prog_6_method_18_code 80 = .ok (.getfield 22, 3) := by decide +kernel
theorem d_RM_rectangles_83 : decode prog_6_method_18_code 83 = .ok (.iload_n 1, 1) := by decide +kernel
theorem d_RM_rectangles_84 : decode prog_6_method_18_code 84 = .ok (.iaload, 1) := by decide +kernel
theorem d_RM_rectangles_85 : decode prog_6_method_18_code 85 = .ok (.if_icmp .ne 7, 3) := by decide +kernel
theorem d_RM_rectangles_88 : decode prog_6_method_18_code 88 = .ok (.iconst 1, 1) := by decide +kernel
theorem d_RM_rectangles_89 : decode prog_6_method_18_code 89 = .ok (.goto 4, 3) := by decide +kernel
theorem d_RM_rectangles_92 : decode prog_6_method_18_code 92 = .ok (.iconst 0, 1) := by decide +kernel
theorem d_RM_rectangles_93 : decode prog_6_method_18_code 93 = .ok (.invokestatic 116, 3) := by decide +kernel
theorem d_RM_rectangles_96 : decode prog_6_method_18_code 96 = .ok (.iinc 2 1, 3) := by decide +kernel
theorem d_RM_rectangles_99 : decode prog_6_method_18_code 99 = .ok (.goto (-87), 3) := by decide +kernel
theorem d_RM_rectangles_102 : decode prog_6_method_18_code 102 = .ok (.iinc 1 1, 3) := by decide +kernel
theorem d_RM_rectangles_105 : decode prog_6_method_18_code 105 = .ok (.goto (-103), 3) := by decide +kernel
theorem d_RM_rectangles_108 : decode prog_6_method_18_code 108 = .ok (.return_, 1) := by decide +kernel
theorem d_RM_sortLines_0 : decode prog_6_method_19_code 0 = .ok (.iconst 1, 1) := by decide +kernel
theorem d_RM_sortLines_1 : decode prog_6_method_19_code 1 = .ok (.istore_n 1, 1) := by decide +kernel
theorem d_RM_sortLines_2 : decode prog_6_method_19_code 2 = .ok (.iload_n 1, 1) := by decide +kernel
theorem d_RM_sortLines_3 : decode prog_6_method_19_code 3 = .ok (.aload_n 0, 1) := by decide +kernel
theorem d_RM_sortLines_4 : decode prog_6_method_19_code 4 = .ok (.getfield 113, 3) := by decide +kernel
theorem d_RM_sortLines_7 : decode prog_6_method_19_code 7 = .ok (.if_icmp .ge 143, 3) := by decide +kernel
theorem d_RM_sortLines_10 : decode prog_6_method_19_code 10 = .ok (.iload_n 1, 1) := by decide +kernel
theorem d_RM_sortLines_11 : decode prog_6_method_19_code 11 = .ok (.istore_n 2, 1) := by decide +kernel
theorem d_RM_sortLines_12 : decode prog_6_method_19_code 12 = .ok (.iload_n 2, 1) := by decide +kernel
theorem d_RM_sortLines_13 : decode prog_6_method_19_code 13 = .ok (.ifCond .le 131, 3) := by decide +kernel
theorem d_RM_sortLines_16 : decode prog_6_method_19_code 16 = .ok (.aload_n 0, 1) := by decide +kernel
theorem d_RM_sortLines_17 : decode prog_6_method_19_code 17 = .ok (.bipush 64, 2) := by decide +kernel
theorem d_RM_sortLines_19 : decode prog_6_method_19_code 19 = .ok (.iload_n 2, 1) := by decide +kernel
theorem d_RM_sortLines_20 : decode prog_6_method_19_code 20 = .ok (.iadd, 1) := by decide +kernel
theorem d_RM_sortLines_21 : decode prog_6_method_19_code 21 = .ok (.bipush 64, 2) := by decide +kernel
theorem d_RM_sortLines_23 : decode prog_6_method_19_code 23 = .ok (.iload_n 2, 1) := by decide +kernel
theorem d_RM_sortLines_24 : decode prog_6_method_19_code 24 = .ok (.iadd, 1) := by decide +kernel
theorem d_RM_sortLines_25 : decode prog_6_method_19_code 25 = .ok (.iconst 1, 1) := by decide +kernel
theorem d_RM_sortLines_26 : decode prog_6_method_19_code 26 = .ok (.isub, 1) := by decide +kernel
theorem d_RM_sortLines_27 : decode prog_6_method_19_code 27 = .ok (.aload_n 0, 1) := by decide +kernel
theorem d_RM_sortLines_28 : decode prog_6_method_19_code 28 = .ok (.getfield 22, 3) := by decide +kernel
theorem d_RM_sortLines_31 : decode prog_6_method_19_code 31 = .ok (.iload_n 2, 1) := by decide +kernel
theorem d_RM_sortLines_32 : decode prog_6_method_19_code 32 = .ok (.iaload, 1) := by decide +kernel
theorem d_RM_sortLines_33 : decode prog_6_method_19_code 33 = .ok (.aload_n 0, 1) := by decide +kernel
theorem d_RM_sortLines_34 : decode prog_6_method_19_code 34 = .ok (.getfield 22, 3) := by decide +kernel
theorem d_RM_sortLines_37 : decode prog_6_method_19_code 37 = .ok (.iload_n 2, 1) := by decide +kernel
theorem d_RM_sortLines_38 : decode prog_6_method_19_code 38 = .ok (.iconst 1, 1) := by decide +kernel
theorem d_RM_sortLines_39 : decode prog_6_method_19_code 39 = .ok (.isub, 1) := by decide +kernel
theorem d_RM_sortLines_40 : decode prog_6_method_19_code 40 = .ok (.iaload, 1) := by decide +kernel
theorem d_RM_sortLines_41 : decode prog_6_method_19_code 41 = .ok (.invokevirtual 120, 3) := by decide +kernel
theorem d_RM_sortLines_44 : decode prog_6_method_19_code 44 = .ok (.ifCond .eq 100, 3) := by decide +kernel
theorem d_RM_sortLines_47 : decode prog_6_method_19_code 47 = .ok (.iconst 0, 1) := by decide +kernel
theorem d_RM_sortLines_48 : decode prog_6_method_19_code 48 = .ok (.istore_n 3, 1) := by decide +kernel
theorem d_RM_sortLines_49 : decode prog_6_method_19_code 49 = .ok (.iload_n 3, 1) := by decide +kernel
theorem d_RM_sortLines_50 : decode prog_6_method_19_code 50 = .ok (.iconst 4, 1) := by decide +kernel
theorem d_RM_sortLines_51 : decode prog_6_method_19_code 51 = .ok (.if_icmp .ge 57, 3) := by decide +kernel
theorem d_RM_sortLines_54 : decode prog_6_method_19_code 54 = .ok (.aload_n 0, 1) := by decide +kernel
theorem d_RM_sortLines_55 : decode prog_6_method_19_code 55 = .ok (.getfield 19, 3) := by decide +kernel
theorem d_RM_sortLines_58 : decode prog_6_method_19_code 58 = .ok (.iconst 4, 1) := by decide +kernel
theorem d_RM_sortLines_59 : decode prog_6_method_19_code 59 = .ok (.iload_n 2, 1) := by decide +kernel
theorem d_RM_sortLines_60 : decode prog_6_method_19_code 60 = .ok (.imul, 1) := by decide +kernel
theorem d_RM_sortLines_61 : decode prog_6_method_19_code 61 = .ok (.iload_n 3, 1) := by decide +kernel
theorem d_RM_sortLines_62 : decode prog_6_method_19_code 62 = .ok (.iadd, 1) := by decide +kernel
theorem d_RM_sortLines_63 : decode prog_6_method_19_code 63 = .ok (.iaload, 1) := by decide +kernel
theorem d_RM_sortLines_64 : decode prog_6_method_19_code 64 = .ok (.istore 4, 2) := by decide +kernel
theorem d_RM_sortLines_66 : decode prog_6_method_19_code 66 = .ok (.aload_n 0, 1) := by decide +kernel
theorem d_RM_sortLines_67 : decode prog_6_method_19_code 67 = .ok (.getfield 19, 3) := by decide +kernel
theorem d_RM_sortLines_70 : decode prog_6_method_19_code 70 = .ok (.iconst 4, 1) := by decide +kernel
theorem d_RM_sortLines_71 : decode prog_6_method_19_code 71 = .ok (.iload_n 2, 1) := by decide +kernel
theorem d_RM_sortLines_72 : decode prog_6_method_19_code 72 = .ok (.imul, 1) := by decide +kernel
theorem d_RM_sortLines_73 : decode prog_6_method_19_code 73 = .ok (.iload_n 3, 1) := by decide +kernel
theorem d_RM_sortLines_74 : decode prog_6_method_19_code 74 = .ok (.iadd, 1) := by decide +kernel
theorem d_RM_sortLines_75 : decode prog_6_method_19_code 75 = .ok (.aload_n 0, 1) := by decide +kernel
theorem d_RM_sortLines_76 : decode prog_6_method_19_code 76 = .ok (.getfield 19, 3) := by decide +kernel
theorem d_RM_sortLines_79 : decode prog_6_method_19_code 79 = .ok (.iconst 4, 1) := by decide +kernel
theorem d_RM_sortLines_80 : decode prog_6_method_19_code 80 = .ok (.iload_n 2, 1) := by decide +kernel
theorem d_RM_sortLines_81 : decode prog_6_method_19_code 81 = .ok (.imul, 1) := by decide +kernel
theorem d_RM_sortLines_82 : decode prog_6_method_19_code 82 = .ok (.iconst 4, 1) := by decide +kernel
theorem d_RM_sortLines_83 : decode prog_6_method_19_code 83 = .ok (.isub, 1) := by decide +kernel
theorem d_RM_sortLines_84 : decode prog_6_method_19_code 84 = .ok (.iload_n 3, 1) := by decide +kernel
theorem d_RM_sortLines_85 : decode prog_6_method_19_code 85 = .ok (.iadd, 1) := by decide +kernel
theorem d_RM_sortLines_86 : decode prog_6_method_19_code 86 = .ok (.iaload, 1) := by decide +kernel
theorem d_RM_sortLines_87 : decode prog_6_method_19_code 87 = .ok (.iastore, 1) := by decide +kernel
theorem d_RM_sortLines_88 : decode prog_6_method_19_code 88 = .ok (.aload_n 0, 1) := by decide +kernel
theorem d_RM_sortLines_89 : decode prog_6_method_19_code 89 = .ok (.getfield 19, 3) := by decide +kernel
theorem d_RM_sortLines_92 : decode prog_6_method_19_code 92 = .ok (.iconst 4, 1) := by decide +kernel
theorem d_RM_sortLines_93 : decode prog_6_method_19_code 93 = .ok (.iload_n 2, 1) := by decide +kernel
theorem d_RM_sortLines_94 : decode prog_6_method_19_code 94 = .ok (.imul, 1) := by decide +kernel
theorem d_RM_sortLines_95 : decode prog_6_method_19_code 95 = .ok (.iconst 4, 1) := by decide +kernel
theorem d_RM_sortLines_96 : decode prog_6_method_19_code 96 = .ok (.isub, 1) := by decide +kernel
theorem d_RM_sortLines_97 : decode prog_6_method_19_code 97 = .ok (.iload_n 3, 1) := by decide +kernel
theorem d_RM_sortLines_98 : decode prog_6_method_19_code 98 = .ok (.iadd, 1) := by decide +kernel
theorem d_RM_sortLines_99 : decode prog_6_method_19_code 99 = .ok (.iload 4, 2) := by decide +kernel
theorem d_RM_sortLines_101 : decode prog_6_method_19_code 101 = .ok (.iastore, 1) := by decide +kernel
theorem d_RM_sortLines_102 : decode prog_6_method_19_code 102 = .ok (.iinc 3 1, 3) := by decide +kernel
theorem d_RM_sortLines_105 : decode prog_6_method_19_code 105 = .ok (.goto (-56), 3) := by decide +kernel
theorem d_RM_sortLines_108 : decode prog_6_method_19_code 108 = .ok (.aload_n 0, 1) := by decide +kernel
theorem d_RM_sortLines_109 : decode prog_6_method_19_code 109 = .ok (.getfield 22, 3) := by decide +kernel
theorem d_RM_sortLines_112 : decode prog_6_method_19_code 112 = .ok (.iload_n 2, 1) := by decide +kernel
theorem d_RM_sortLines_113 : decode prog_6_method_19_code 113 = .ok (.iaload, 1) := by decide +kernel
theorem d_RM_sortLines_114 : decode prog_6_method_19_code 114 = .ok (.istore_n 3, 1) := by decide +kernel
theorem d_RM_sortLines_115 : decode prog_6_method_19_code 115 = .ok (.aload_n 0, 1) := by decide +kernel
theorem d_RM_sortLines_116 : decode prog_6_method_19_code 116 = .ok (.getfield 22, 3) := by decide +kernel
theorem d_RM_sortLines_119 : decode prog_6_method_19_code 119 = .ok (.iload_n 2, 1) := by decide +kernel
theorem d_RM_sortLines_120 : decode prog_6_method_19_code 120 = .ok (.aload_n 0, 1) := by decide +kernel
theorem d_RM_sortLines_121 : decode prog_6_method_19_code 121 = .ok (.getfield 22, 3) := by decide +kernel
theorem d_RM_sortLines_124 : decode prog_6_method_19_code 124 = .ok (.iload_n 2, 1) := by decide +kernel
theorem d_RM_sortLines_125 : decode prog_6_method_19_code 125 = .ok (.iconst 1, 1) := by decide +kernel
theorem d_RM_sortLines_126 : decode prog_6_method_19_code 126 = .ok (.isub, 1) := by decide +kernel
theorem d_RM_sortLines_127 : decode prog_6_method_19_code 127 = .ok (.iaload, 1) := by decide +kernel
theorem d_RM_sortLines_128 : decode prog_6_method_19_code 128 = .ok (.iastore, 1) := by decide +kernel
theorem d_RM_sortLines_129 : decode prog_6_method_19_code 129 = .ok (.aload_n 0, 1) := by decide +kernel
theorem d_RM_sortLines_130 : decode prog_6_method_19_code 130 = .ok (.getfield 22, 3) := by decide +kernel
theorem d_RM_sortLines_133 : decode prog_6_method_19_code 133 = .ok (.iload_n 2, 1) := by decide +kernel
theorem d_RM_sortLines_134 : decode prog_6_method_19_code 134 = .ok (.iconst 1, 1) := by decide +kernel
theorem d_RM_sortLines_135 : decode prog_6_method_19_code 135 = .ok (.isub, 1) := by decide +kernel
theorem d_RM_sortLines_136 : decode prog_6_method_19_code 136 = .ok (.iload_n 3, 1) := by decide +kernel
theorem d_RM_sortLines_137 : decode prog_6_method_19_code 137 = .ok (.iastore, 1) := by decide +kernel
theorem d_RM_sortLines_138 : decode prog_6_method_19_code 138 = .ok (.iinc 2 (-1), 3) := by decide +kernel
theorem d_RM_sortLines_141 : decode prog_6_method_19_code 141 = .ok (.goto (-129), 3) := by decide +kernel
theorem d_RM_sortLines_144 : decode prog_6_method_19_code 144 = .ok (.iinc 1 1, 3) := by decide +kernel
theorem d_RM_sortLines_147 : decode prog_6_method_19_code 147 = .ok (.goto (-145), 3) := by decide +kernel
theorem d_RM_sortLines_150 : decode prog_6_method_19_code 150 = .ok (.return_, 1) := by decide +kernel
theorem d_RM_isBefore_0 : decode prog_6_method_20_code 0 = .ok (.aload_n 0, 1) := by decide +kernel
theorem d_RM_isBefore_1 : decode prog_6_method_20_code 1 = .ok (.iload_n 1, 1) := by decide +kernel
theorem d_RM_isBefore_2 : decode prog_6_method_20_code 2 = .ok (.invokevirtual 94, 3) := by decide +kernel
theorem d_RM_isBefore_5 : decode prog_6_method_20_code 5 = .ok (.aload_n 0, 1) := by decide +kernel
theorem d_RM_isBefore_6 : decode prog_6_method_20_code 6 = .ok (.iload_n 2, 1) := by decide +kernel
theorem d_RM_isBefore_7 : decode prog_6_method_20_code 7 = .ok (.invokevirtual 94, 3) := by decide +kernel
theorem d_RM_isBefore_10 : decode prog_6_method_20_code 10 = .ok (.if_icmp .eq 22, 3) := by decide +kernel
theorem d_RM_isBefore_13 : decode prog_6_method_20_code 13 = .ok (.aload_n 0, 1) := by decide +kernel
theorem d_RM_isBefore_14 : decode prog_6_method_20_code 14 = .ok (.iload_n 1, 1) := by decide +kernel
theorem d_RM_isBefore_15 : decode prog_6_method_20_code 15 = .ok (.invokevirtual 94, 3) := by decide +kernel
theorem d_RM_isBefore_18 : decode prog_6_method_20_code 18 = .ok (.aload_n 0, 1) := by decide +kernel
theorem d_RM_isBefore_19 : decode prog_6_method_20_code 19 = .ok (.iload_n 2, 1) := by decide +kernel
theorem d_RM_isBefore_20 : decode prog_6_method_20_code 20 = .ok (.invokevirtual 94, 3) := by decide +kernel
theorem d_RM_isBefore_23 : decode prog_6_method_20_code 23 = .ok (.if_icmp .ge 7, 3) := by decide +kernel
theorem d_RM_isBefore_26 : decode prog_6_method_20_code 26 = .ok (.iconst 1, 1) := by decide +kernel
theorem d_RM_isBefore_27 : decode prog_6_method_20_code 27 = .ok (.goto 4, 3) := by decide +kernel
theorem d_RM_isBefore_30 : decode prog_6_method_20_code 30 = .ok (.iconst 0, 1) := by decide +kernel
theorem d_RM_isBefore_31 : decode prog_6_method_20_code 31 = .ok (.ireturn, 1) := by decide +kernel
theorem d_RM_isBefore_32 : decode prog_6_method_20_code 32 = .ok (.aload_n 0, 1) := by decide +kernel
theorem d_RM_isBefore_33 : decode prog_6_method_20_code 33 = .ok (.iload_n 1, 1) := by decide +kernel
theorem d_RM_isBefore_34 : decode prog_6_method_20_code 34 = .ok (.invokevirtual 100, 3) := by decide +kernel
theorem d_RM_isBefore_37 : decode prog_6_method_20_code 37 = .ok (.aload_n 0, 1) := by decide +kernel
theorem d_RM_isBefore_38 : decode prog_6_method_20_code 38 = .ok (.iload_n 2, 1) := by decide +kernel
theorem d_RM_isBefore_39 : decode prog_6_method_20_code 39 = .ok (.invokevirtual 100, 3) := by decide +kernel
theorem d_RM_isBefore_42 : decode prog_6_method_20_code 42 = .ok (.if_icmp .eq 24, 3) := by decide +kernel
theorem d_RM_isBefore_45 : decode prog_6_method_20_code 45 = .ok (.aload_n 0, 1) := by decide +kernel
theorem d_RM_isBefore_46 : decode prog_6_method_20_code 46 = .ok (.iload_n 1, 1) := by decide +kernel
theorem d_RM_isBefore_47 : decode prog_6_method_20_code 47 = .ok (.invokevirtual 100, 3) := by decide +kernel
theorem d_RM_isBefore_50 : decode prog_6_method_20_code 50 = .ok (.aload_n 0, 1) := by decide +kernel
theorem d_RM_isBefore_51 : decode prog_6_method_20_code 51 = .ok (.iload_n 2, 1) := by decide +kernel
theorem d_RM_isBefore_52 : decode prog_6_method_20_code 52 = .ok (.invokevirtual 100, 3) := by decide +kernel
theorem d_RM_isBefore_55 : decode prog_6_method_20_code 55 = .ok (.if_icmp .ge 7, 3) := by decide +kernel
theorem d_RM_isBefore_58 : decode prog_6_method_20_code 58 = .ok (.iconst 1, 1) := by decide +kernel
theorem d_RM_isBefore_59 : decode prog_6_method_20_code 59 = .ok (.goto 18, 3) := by decide +kernel
theorem d_RM_isBefore_62 : decode prog_6_method_20_code 62 = .ok (.iconst 0, 1) := by decide +kernel
theorem d_RM_isBefore_63 : decode prog_6_method_20_code 63 = .ok (.goto 14, 3) := by decide +kernel
theorem d_RM_isBefore_66 : decode prog_6_method_20_code 66 = .ok (.iload_n 3, 1) := by decide +kernel
theorem d_RM_isBefore_67 : decode prog_6_method_20_code 67 = .ok (.iload 4, 2) := by decide +kernel
theorem d_RM_isBefore_69 : decode prog_6_method_20_code 69 = .ok (.if_icmp .ge 7, 3) := by decide +kernel
theorem d_RM_isBefore_72 : decode prog_6_method_20_code 72 = .ok (.iconst 1, 1) := by decide +kernel
theorem d_RM_isBefore_73 : decode prog_6_method_20_code 73 = .ok (.goto 4, 3) := by decide +kernel
theorem d_RM_isBefore_76 : decode prog_6_method_20_code 76 = .ok (.iconst 0, 1) := by decide +kernel
theorem d_RM_isBefore_77 : decode prog_6_method_20_code 77 = .ok (.ireturn, 1) := by decide +kernel
theorem d_RM_findBlocks_0 : decode prog_6_method_21_code 0 = .ok (.iconst 0, 1) := by decide +kernel
theorem d_RM_findBlocks_1 : decode prog_6_method_21_code 1 = .ok (.istore_n 1, 1) := by decide +kernel
theorem d_RM_findBlocks_2 : decode prog_6_method_21_code 2 = .ok (.iload_n 1, 1) := by decide +kernel
theorem d_RM_findBlocks_3 : decode prog_6_method_21_code 3 = .ok (.aload_n 0, 1) := by decide +kernel
theorem d_RM_findBlocks_4 : decode prog_6_method_21_code 4 = .ok (.getfield 113, 3) := by decide +kernel
theorem d_RM_findBlocks_7 : decode prog_6_method_21_code 7 = .ok (.if_icmp .ge 16, 3) := by decide +kernel
theorem d_RM_findBlocks_10 : decode prog_6_method_21_code 10 = .ok (.aload_n 0, 1) := by decide +kernel
theorem d_RM_findBlocks_11 : decode prog_6_method_21_code 11 = .ok (.getfield 25, 3) := by decide +kernel
theorem d_RM_findBlocks_14 : decode prog_6_method_21_code 14 = .ok (.iload_n 1, 1) := by decide +kernel
theorem d_RM_findBlocks_15 : decode prog_6_method_21_code 15 = .ok (.iload_n 1, 1) := by decide +kernel
theorem d_RM_findBlocks_16 : decode prog_6_method_21_code 16 = .ok (.iastore, 1) := by decide +kernel
theorem d_RM_findBlocks_17 : decode prog_6_method_21_code 17 = .ok (.iinc 1 1, 3) := by decide +kernel
theorem d_RM_findBlocks_20 : decode prog_6_method_21_code 20 = .ok (.goto (-18), 3) := by decide +kernel
theorem d_RM_findBlocks_23 : decode prog_6_method_21_code 23 = .ok (.iconst 0, 1) := by decide +kernel
theorem d_RM_findBlocks_24 : decode prog_6_method_21_code 24 = .ok (.istore_n 1, 1) := by decide +kernel
theorem d_RM_findBlocks_25 : decode prog_6_method_21_code 25 = .ok (.iload_n 1, 1) := by decide +kernel
theorem d_RM_findBlocks_26 : decode prog_6_method_21_code 26 = .ok (.aload_n 0, 1) := by decide +kernel
theorem d_RM_findBlocks_27 : decode prog_6_method_21_code 27 = .ok (.getfield 113, 3) := by decide +kernel
theorem d_RM_findBlocks_30 : decode prog_6_method_21_code 30 = .ok (.if_icmp .ge 92, 3) := by decide +kernel
theorem d_RM_findBlocks_33 : decode prog_6_method_21_code 33 = .ok (.iconst 0, 1) := by decide +kernel
theorem d_RM_findBlocks_34 : decode prog_6_method_21_code 34 = .ok (.istore_n 2, 1) := by decide +kernel
theorem d_RM_findBlocks_35 : decode prog_6_method_21_code 35 = .ok (.iload_n 2, 1) := by decide +kernel
theorem d_RM_findBlocks_36 : decode prog_6_method_21_code 36 = .ok (.aload_n 0, 1) := by decide +kernel
theorem d_RM_findBlocks_37 : decode prog_6_method_21_code 37 = .ok (.getfield 113, 3) := by decide +kernel
theorem d_RM_findBlocks_40 : decode prog_6_method_21_code 40 = .ok (.if_icmp .ge 76, 3) := by decide +kernel
theorem d_RM_findBlocks_43 : decode prog_6_method_21_code 43 = .ok (.iconst 0, 1) := by decide +kernel
theorem d_RM_findBlocks_44 : decode prog_6_method_21_code 44 = .ok (.istore_n 3, 1) := by decide +kernel
theorem d_RM_findBlocks_45 : decode prog_6_method_21_code 45 = .ok (.iload_n 3, 1) := by decide +kernel
theorem d_RM_findBlocks_46 : decode prog_6_method_21_code 46 = .ok (.aload_n 0, 1) := by decide +kernel
theorem d_RM_findBlocks_47 : decode prog_6_method_21_code 47 = .ok (.getfield 113, 3) := by decide +kernel
theorem d_RM_findBlocks_50 : decode prog_6_method_21_code 50 = .ok (.if_icmp .ge 60, 3) := by decide +kernel
theorem d_RM_findBlocks_53 : decode prog_6_method_21_code 53 = .ok (.aload_n 0, 1) := by decide +kernel
theorem d_RM_findBlocks_54 : decode prog_6_method_21_code 54 = .ok (.getfield 25, 3) := by decide +kernel
theorem d_RM_findBlocks_57 : decode prog_6_method_21_code 57 = .ok (.iload_n 2, 1) := by decide +kernel
theorem d_RM_findBlocks_58 : decode prog_6_method_21_code 58 = .ok (.aload_n 0, 1) := by decide +kernel
theorem d_RM_findBlocks_59 : decode prog_6_method_21_code 59 = .ok (.getfield 25, 3) := by decide +kernel
theorem d_RM_findBlocks_62 : decode prog_6_method_21_code 62 = .ok (.iload_n 3, 1) := by decide +kernel
theorem d_RM_findBlocks_63 : decode prog_6_method_21_code 63 = .ok (.iaload, 1) := by decide +kernel
theorem d_RM_findBlocks_64 : decode prog_6_method_21_code 64 = .ok (.aload_n 0, 1) := by decide +kernel
theorem d_RM_findBlocks_65 : decode prog_6_method_21_code 65 = .ok (.getfield 25, 3) := by decide +kernel
theorem d_RM_findBlocks_68 : decode prog_6_method_21_code 68 = .ok (.iload_n 2, 1) := by decide +kernel
theorem d_RM_findBlocks_69 : decode prog_6_method_21_code 69 = .ok (.iaload, 1) := by decide +kernel
theorem d_RM_findBlocks_70 : decode prog_6_method_21_code 70 = .ok (.if_icmp .ge 27, 3) := by decide +kernel
theorem d_RM_findBlocks_73 : decode prog_6_method_21_code 73 = .ok (.aload_n 0, 1) := by decide +kernel
theorem d_RM_findBlocks_74 : decode prog_6_method_21_code 74 = .ok (.bipush 64, 2) := by decide +kernel
theorem d_RM_findBlocks_76 : decode prog_6_method_21_code 76 = .ok (.iload_n 2, 1) := by decide +kernel
theorem d_RM_findBlocks_77 : decode prog_6_method_21_code 77 = .ok (.iadd, 1) := by decide +kernel
theorem d_RM_findBlocks_78 : decode prog_6_method_21_code 78 = .ok (.bipush 64, 2) := by decide +kernel
theorem d_RM_findBlocks_80 : decode prog_6_method_21_code 80 = .ok (.iload_n 3, 1) := by decide +kernel
theorem d_RM_findBlocks_81 : decode prog_6_method_21_code 81 = .ok (.iadd, 1) := by decide +kernel
theorem d_RM_findBlocks_82 : decode prog_6_method_21_code 82 = .ok (.invokevirtual 123, 3) := by decide +kernel
theorem d_RM_findBlocks_85 : decode prog_6_method_21_code 85 = .ok (.ifCond .eq 12, 3) := by decide +kernel
theorem d_RM_findBlocks_88 : decode prog_6_method_21_code 88 = .ok (.aload_n 0, 1) := by decide +kernel
theorem d_RM_findBlocks_89 : decode prog_6_method_21_code 89 = .ok (.getfield 25, 3) := by decide +kernel
theorem d_RM_findBlocks_92 : decode prog_6_method_21_code 92 = .ok (.iload_n 3, 1) := by decide +kernel
theorem d_RM_findBlocks_93 : decode prog_6_method_21_code 93 = .ok (.iaload, 1) := by decide +kernel
theorem d_RM_findBlocks_94 : decode prog_6_method_21_code 94 = .ok (.goto 9, 3) := by decide +kernel
theorem d_RM_findBlocks_97 : decode prog_6_method_21_code 97 = .ok (.aload_n 0, 1) := by decide +kernel
theorem d_RM_findBlocks_98 : decode prog_6_method_21_code 98 = .ok (.getfield 25, 3) := by decide +kernel
theorem d_RM_findBlocks_101 : decode prog_6_method_21_code 101 = .ok (.iload_n 2, 1) := by decide +kernel
theorem d_RM_findBlocks_102 : decode prog_6_method_21_code 102 = .ok (.iaload, 1) := by decide +kernel
theorem d_RM_findBlocks_103 : decode prog_6_method_21_code 103 = .ok (.iastore, 1) := by decide +kernel
theorem d_RM_findBlocks_104 : decode prog_6_method_21_code 104 = .ok (.iinc 3 1, 3) := by decide +kernel
theorem d_RM_findBlocks_107 : decode prog_6_method_21_code 107 = .ok (.goto (-62), 3) := by decide +kernel
theorem d_RM_findBlocks_110 : decode prog_6_method_21_code 110 = .ok (.iinc 2 1, 3) := by decide +kernel
theorem d_RM_findBlocks_113 : decode prog_6_method_21_code 113 = .ok (.goto (-78), 3) := by decide +kernel
theorem d_RM_findBlocks_116 : decode prog_6_method_21_code 116 = .ok (.iinc 1 1, 3) := by decide +kernel
theorem d_RM_findBlocks_119 : decode prog_6_method_21_code 119 = .ok (.goto (-94), 3) := by decide +kernel
theorem d_RM_findBlocks_122 : decode prog_6_method_21_code 122 = .ok (.return_, 1) := by decide +kernel
theorem d_RM_lineAt_0 : decode prog_6_method_22_code 0 = .ok (.iconst 0, 1) := by decide +kernel
theorem d_RM_lineAt_1 : decode prog_6_method_22_code 1 = .ok (.istore_n 2, 1) := by decide +kernel
theorem d_RM_lineAt_2 : decode prog_6_method_22_code 2 = .ok (.aload_n 0, 1) := by decide +kernel
theorem d_RM_lineAt_3 : decode prog_6_method_22_code 3 = .ok (.getfield 22, 3) := by decide +kernel
theorem d_RM_lineAt_6 : decode prog_6_method_22_code 6 = .ok (.iload_n 2, 1) := by decide +kernel
theorem d_RM_lineAt_7 : decode prog_6_method_22_code 7 = .ok (.iaload, 1) := by decide +kernel
theorem d_RM_lineAt_8 : decode prog_6_method_22_code 8 = .ok (.aload_n 0, 1) := by decide +kernel
theorem d_RM_lineAt_9 : decode prog_6_method_22_code 9 = .ok (.getfield 16, 3) := by decide +kernel
theorem d_RM_lineAt_12 : decode prog_6_method_22_code 12 = .ok (.iload_n 1, 1) := by decide +kernel
theorem d_RM_lineAt_13 : decode prog_6_method_22_code 13 = .ok (.iaload, 1) := by decide +kernel
theorem d_RM_lineAt_14 : decode prog_6_method_22_code 14 = .ok (.if_icmp .eq 9, 3) := by decide +kernel
theorem d_RM_lineAt_17 : decode prog_6_method_22_code 17 = .ok (.iinc 2 1, 3) := by decide +kernel
theorem d_RM_lineAt_20 : decode prog_6_method_22_code 20 = .ok (.goto (-18), 3) := by decide +kernel
theorem d_RM_lineAt_23 : decode prog_6_method_22_code 23 = .ok (.iload_n 2, 1) := by decide +kernel
theorem d_RM_lineAt_24 : decode prog_6_method_22_code 24 = .ok (.ireturn, 1) := by decide +kernel
theorem d_RM_keepLines_0 : decode prog_6_method_23_code 0 = .ok (.aload_n 0, 1) := by decide +kernel
theorem d_RM_keepLines_1 : decode prog_6_method_23_code 1 = .ok (.aload_n 0, 1) := by decide +kernel
theorem d_RM_keepLines_2 : decode prog_6_method_23_code 2 = .ok (.getfield 113, 3) := by decide +kernel
theorem d_RM_keepLines_5 : decode prog_6_method_23_code 5 = .ok (.putfield 126, 3) := by decide +kernel
theorem d_RM_keepLines_8 : decode prog_6_method_23_code 8 = .ok (.iconst 0, 1) := by decide +kernel
theorem d_RM_keepLines_9 : decode prog_6_method_23_code 9 = .ok (.istore_n 1, 1) := by decide +kernel
theorem d_RM_keepLines_10 : decode prog_6_method_23_code 10 = .ok (.iload_n 1, 1) := by decide +kernel
theorem d_RM_keepLines_11 : decode prog_6_method_23_code 11 = .ok (.aload_n 0, 1) := by decide +kernel
theorem d_RM_keepLines_12 : decode prog_6_method_23_code 12 = .ok (.getfield 113, 3) := by decide +kernel
theorem d_RM_keepLines_15 : decode prog_6_method_23_code 15 = .ok (.if_icmp .ge 113, 3) := by decide +kernel
theorem d_RM_keepLines_18 : decode prog_6_method_23_code 18 = .ok (.iconst 0, 1) := by decide +kernel
theorem d_RM_keepLines_19 : decode prog_6_method_23_code 19 = .ok (.istore_n 2, 1) := by decide +kernel
theorem d_RM_keepLines_20 : decode prog_6_method_23_code 20 = .ok (.iload_n 2, 1) := by decide +kernel
theorem d_RM_keepLines_21 : decode prog_6_method_23_code 21 = .ok (.iconst 4, 1) := by decide +kernel
theorem d_RM_keepLines_22 : decode prog_6_method_23_code 22 = .ok (.if_icmp .ge 29, 3) := by decide +kernel
theorem d_RM_keepLines_25 : decode prog_6_method_23_code 25 = .ok (.aload_n 0, 1) := by decide +kernel
theorem d_RM_keepLines_26 : decode prog_6_method_23_code 26 = .ok (.getfield 44, 3) := by decide +kernel
theorem d_RM_keepLines_29 : decode prog_6_method_23_code 29 = .ok (.iconst 4, 1) := by decide +kernel
theorem d_RM_keepLines_30 : decode prog_6_method_23_code 30 = .ok (.iload_n 1, 1) := by decide +kernel
theorem d_RM_keepLines_31 : decode prog_6_method_23_code 31 = .ok (.imul, 1) := by decide +kernel
theorem d_RM_keepLines_32 : decode prog_6_method_23_code 32 = .ok (.iload_n 2, 1) := by decide +kernel
theorem d_RM_keepLines_33 : decode prog_6_method_23_code 33 = .ok (.iadd, 1) := by decide +kernel
theorem d_RM_keepLines_34 : decode prog_6_method_23_code 34 = .ok (.aload_n 0, 1) := by decide +kernel
theorem d_RM_keepLines_35 : decode prog_6_method_23_code 35 = .ok (.getfield 19, 3) := by decide +kernel
theorem d_RM_keepLines_38 : decode prog_6_method_23_code 38 = .ok (.iconst 4, 1) := by decide +kernel
theorem d_RM_keepLines_39 : decode prog_6_method_23_code 39 = .ok (.iload_n 1, 1) := by decide +kernel
theorem d_RM_keepLines_40 : decode prog_6_method_23_code 40 = .ok (.imul, 1) := by decide +kernel
theorem d_RM_keepLines_41 : decode prog_6_method_23_code 41 = .ok (.iload_n 2, 1) := by decide +kernel
theorem d_RM_keepLines_42 : decode prog_6_method_23_code 42 = .ok (.iadd, 1) := by decide +kernel
theorem d_RM_keepLines_43 : decode prog_6_method_23_code 43 = .ok (.iaload, 1) := by decide +kernel
theorem d_RM_keepLines_44 : decode prog_6_method_23_code 44 = .ok (.iastore, 1) := by decide +kernel
theorem d_RM_keepLines_45 : decode prog_6_method_23_code 45 = .ok (.iinc 2 1, 3) := by decide +kernel
end
section
theorem d_RM_keepLines_48 : decode prog_6_method_23_code 48 = .ok (.goto (-28), 3) := by decide +kernel
theorem d_RM_keepLines_51 : decode prog_6_method_23_code 51 = .ok (.aload_n 0, 1) := by decide +kernel
theorem d_RM_keepLines_52 : decode prog_6_method_23_code 52 = .ok (.getfield 47, 3) := by decide +kernel
theorem d_RM_keepLines_55 : decode prog_6_method_23_code 55 = .ok (.iload_n 1, 1) := by decide +kernel
theorem d_RM_keepLines_56 : decode prog_6_method_23_code 56 = .ok (.aload_n 0, 1) := by decide +kernel
theorem d_RM_keepLines_57 : decode prog_6_method_23_code 57 = .ok (.getfield 22, 3) := by decide +kernel
theorem d_RM_keepLines_60 : decode prog_6_method_23_code 60 = .ok (.iload_n 1, 1) := by decide +kernel
theorem d_RM_keepLines_61 : decode prog_6_method_23_code 61 = .ok (.iaload, 1) := by decide +kernel
theorem d_RM_keepLines_62 : decode prog_6_method_23_code 62 = .ok (.iastore, 1) := by decide +kernel
theorem d_RM_keepLines_63 : decode prog_6_method_23_code 63 = .ok (.aload_n 0, 1) := by decide +kernel
theorem d_RM_keepLines_64 : decode prog_6_method_23_code 64 = .ok (.getfield 50, 3) := by decide +kernel
theorem d_RM_keepLines_67 : decode prog_6_method_23_code 67 = .ok (.iload_n 1, 1) := by decide +kernel
theorem d_RM_keepLines_68 : decode prog_6_method_23_code 68 = .ok (.iconst 0, 1) := by decide +kernel
theorem d_RM_keepLines_69 : decode prog_6_method_23_code 69 = .ok (.iastore, 1) := by decide +kernel
theorem d_RM_keepLines_70 : decode prog_6_method_23_code 70 = .ok (.aload_n 0, 1) := by decide +kernel
theorem d_RM_keepLines_71 : decode prog_6_method_23_code 71 = .ok (.getfield 53, 3) := by decide +kernel
theorem d_RM_keepLines_74 : decode prog_6_method_23_code 74 = .ok (.iload_n 1, 1) := by decide +kernel
theorem d_RM_keepLines_75 : decode prog_6_method_23_code 75 = .ok (.iconst 0, 1) := by decide +kernel
theorem d_RM_keepLines_76 : decode prog_6_method_23_code 76 = .ok (.iastore, 1) := by decide +kernel
theorem d_RM_keepLines_77 : decode prog_6_method_23_code 77 = .ok (.iconst 0, 1) := by decide +kernel
theorem d_RM_keepLines_78 : decode prog_6_method_23_code 78 = .ok (.istore_n 2, 1) := by decide +kernel
theorem d_RM_keepLines_79 : decode prog_6_method_23_code 79 = .ok (.iload_n 2, 1) := by decide +kernel
theorem d_RM_keepLines_80 : decode prog_6_method_23_code 80 = .ok (.aload_n 0, 1) := by decide +kernel
theorem d_RM_keepLines_81 : decode prog_6_method_23_code 81 = .ok (.getfield 73, 3) := by decide +kernel
theorem d_RM_keepLines_84 : decode prog_6_method_23_code 84 = .ok (.if_icmp .ge 38, 3) := by decide +kernel
theorem d_RM_keepLines_87 : decode prog_6_method_23_code 87 = .ok (.aload_n 0, 1) := by decide +kernel
theorem d_RM_keepLines_88 : decode prog_6_method_23_code 88 = .ok (.getfield 50, 3) := by decide +kernel
theorem d_RM_keepLines_91 : decode prog_6_method_23_code 91 = .ok (.iload_n 1, 1) := by decide +kernel
theorem d_RM_keepLines_92 : decode prog_6_method_23_code 92 = .ok (.dup2, 1) := by decide +kernel
theorem d_RM_keepLines_93 : decode prog_6_method_23_code 93 = .ok (.iaload, 1) := by decide +kernel
theorem d_RM_keepLines_94 : decode prog_6_method_23_code 94 = .ok (.aload_n 0, 1) := by decide +kernel
theorem d_RM_keepLines_95 : decode prog_6_method_23_code 95 = .ok (.getfield 16, 3) := by decide +kernel
theorem d_RM_keepLines_98 : decode prog_6_method_23_code 98 = .ok (.iload_n 2, 1) := by decide +kernel
theorem d_RM_keepLines_99 : decode prog_6_method_23_code 99 = .ok (.iaload, 1) := by decide +kernel
theorem d_RM_keepLines_100 : decode prog_6_method_23_code 100 = .ok (.aload_n 0, 1) := by decide +kernel
theorem d_RM_keepLines_101 : decode prog_6_method_23_code 101 = .ok (.getfield 22, 3) := by decide +kernel
theorem d_RM_keepLines_104 : decode prog_6_method_23_code 104 = .ok (.iload_n 1, 1) := by decide +kernel
theorem d_RM_keepLines_105 : decode prog_6_method_23_code 105 = .ok (.iaload, 1) := by decide +kernel
theorem d_RM_keepLines_106 : decode prog_6_method_23_code 106 = .ok (.if_icmp .ne 7, 3) := by decide +kernel
theorem d_RM_keepLines_109 : decode prog_6_method_23_code 109 = .ok (.iconst 1, 1) := by decide +kernel
theorem d_RM_keepLines_110 : decode prog_6_method_23_code 110 = .ok (.goto 4, 3) := by decide +kernel
theorem d_RM_keepLines_113 : decode prog_6_method_23_code 113 = .ok (.iconst 0, 1) := by decide +kernel
theorem d_RM_keepLines_114 : decode prog_6_method_23_code 114 = .ok (.iadd, 1) := by decide +kernel
theorem d_RM_keepLines_115 : decode prog_6_method_23_code 115 = .ok (.iastore, 1) := by decide +kernel
theorem d_RM_keepLines_116 : decode prog_6_method_23_code 116 = .ok (.iinc 2 1, 3) := by decide +kernel
theorem d_RM_keepLines_119 : decode prog_6_method_23_code 119 = .ok (.goto (-40), 3) := by decide +kernel
theorem d_RM_keepLines_122 : decode prog_6_method_23_code 122 = .ok (.iinc 1 1, 3) := by decide +kernel
theorem d_RM_keepLines_125 : decode prog_6_method_23_code 125 = .ok (.goto (-115), 3) := by decide +kernel
theorem d_RM_keepLines_128 : decode prog_6_method_23_code 128 = .ok (.aload_n 0, 1) := by decide +kernel
theorem d_RM_keepLines_129 : decode prog_6_method_23_code 129 = .ok (.iconst 0, 1) := by decide +kernel
theorem d_RM_keepLines_130 : decode prog_6_method_23_code 130 = .ok (.putfield 129, 3) := by decide +kernel
theorem d_RM_keepLines_133 : decode prog_6_method_23_code 133 = .ok (.iconst 0, 1) := by decide +kernel
theorem d_RM_keepLines_134 : decode prog_6_method_23_code 134 = .ok (.istore_n 1, 1) := by decide +kernel
theorem d_RM_keepLines_135 : decode prog_6_method_23_code 135 = .ok (.iload_n 1, 1) := by decide +kernel
theorem d_RM_keepLines_136 : decode prog_6_method_23_code 136 = .ok (.aload_n 0, 1) := by decide +kernel
theorem d_RM_keepLines_137 : decode prog_6_method_23_code 137 = .ok (.getfield 113, 3) := by decide +kernel
theorem d_RM_keepLines_140 : decode prog_6_method_23_code 140 = .ok (.if_icmp .ge 24, 3) := by decide +kernel
theorem d_RM_keepLines_143 : decode prog_6_method_23_code 143 = .ok (.aload_n 0, 1) := by decide +kernel
theorem d_RM_keepLines_144 : decode prog_6_method_23_code 144 = .ok (.getfield 25, 3) := by decide +kernel
theorem d_RM_keepLines_147 : decode prog_6_method_23_code 147 = .ok (.iload_n 1, 1) := by decide +kernel
theorem d_RM_keepLines_148 : decode prog_6_method_23_code 148 = .ok (.iaload, 1) := by decide +kernel
theorem d_RM_keepLines_149 : decode prog_6_method_23_code 149 = .ok (.iload_n 1, 1) := by decide +kernel
theorem d_RM_keepLines_150 : decode prog_6_method_23_code 150 = .ok (.if_icmp .ne 8, 3) := by decide +kernel
theorem d_RM_keepLines_153 : decode prog_6_method_23_code 153 = .ok (.aload_n 0, 1) := by decide +kernel
theorem d_RM_keepLines_154 : decode prog_6_method_23_code 154 = .ok (.iload_n 1, 1) := by decide +kernel
theorem d_RM_keepLines_155 : decode prog_6_method_23_code 155 = .ok (.invokevirtual 132, 3) := by decide +kernel
theorem d_RM_keepLines_158 : decode prog_6_method_23_code 158 = .ok (.iinc 1 1, 3) := by decide +kernel
theorem d_RM_keepLines_161 : decode prog_6_method_23_code 161 = .ok (.goto (-26), 3) := by decide +kernel
theorem d_RM_keepLines_164 : decode prog_6_method_23_code 164 = .ok (.aload_n 0, 1) := by decide +kernel
theorem d_RM_keepLines_165 : decode prog_6_method_23_code 165 = .ok (.aload_n 0, 1) := by decide +kernel
theorem d_RM_keepLines_166 : decode prog_6_method_23_code 166 = .ok (.getfield 73, 3) := by decide +kernel
theorem d_RM_keepLines_169 : decode prog_6_method_23_code 169 = .ok (.putfield 136, 3) := by decide +kernel
theorem d_RM_keepLines_172 : decode prog_6_method_23_code 172 = .ok (.iconst 0, 1) := by decide +kernel
theorem d_RM_keepLines_173 : decode prog_6_method_23_code 173 = .ok (.istore_n 1, 1) := by decide +kernel
theorem d_RM_keepLines_174 : decode prog_6_method_23_code 174 = .ok (.iload_n 1, 1) := by decide +kernel
theorem d_RM_keepLines_175 : decode prog_6_method_23_code 175 = .ok (.aload_n 0, 1) := by decide +kernel
theorem d_RM_keepLines_176 : decode prog_6_method_23_code 176 = .ok (.getfield 73, 3) := by decide +kernel
theorem d_RM_keepLines_179 : decode prog_6_method_23_code 179 = .ok (.if_icmp .ge 25, 3) := by decide +kernel
theorem d_RM_keepLines_182 : decode prog_6_method_23_code 182 = .ok (.aload_n 0, 1) := by decide +kernel
theorem d_RM_keepLines_183 : decode prog_6_method_23_code 183 = .ok (.getfield 56, 3) := by decide +kernel
theorem d_RM_keepLines_186 : decode prog_6_method_23_code 186 = .ok (.iload_n 1, 1) := by decide +kernel
theorem d_RM_keepLines_187 : decode prog_6_method_23_code 187 = .ok (.aload_n 0, 1) := by decide +kernel
theorem d_RM_keepLines_188 : decode prog_6_method_23_code 188 = .ok (.getfield 53, 3) := by decide +kernel
theorem d_RM_keepLines_191 : decode prog_6_method_23_code 191 = .ok (.aload_n 0, 1) := by decide +kernel
theorem d_RM_keepLines_192 : decode prog_6_method_23_code 192 = .ok (.iload_n 1, 1) := by decide +kernel
theorem d_RM_keepLines_193 : decode prog_6_method_23_code 193 = .ok (.invokevirtual 139, 3) := by decide +kernel
theorem d_RM_keepLines_196 : decode prog_6_method_23_code 196 = .ok (.iaload, 1) := by decide +kernel
theorem d_RM_keepLines_197 : decode prog_6_method_23_code 197 = .ok (.iastore, 1) := by decide +kernel
theorem d_RM_keepLines_198 : decode prog_6_method_23_code 198 = .ok (.iinc 1 1, 3) := by decide +kernel
theorem d_RM_keepLines_201 : decode prog_6_method_23_code 201 = .ok (.goto (-27), 3) := by decide +kernel
theorem d_RM_keepLines_204 : decode prog_6_method_23_code 204 = .ok (.return_, 1) := by decide +kernel
theorem d_RM_keepBlock_0 : decode prog_6_method_24_code 0 = .ok (.aload_n 0, 1) := by decide +kernel
theorem d_RM_keepBlock_1 : decode prog_6_method_24_code 1 = .ok (.getfield 129, 3) := by decide +kernel
theorem d_RM_keepBlock_4 : decode prog_6_method_24_code 4 = .ok (.istore_n 2, 1) := by decide +kernel
theorem d_RM_keepBlock_5 : decode prog_6_method_24_code 5 = .ok (.aload_n 0, 1) := by decide +kernel
theorem d_RM_keepBlock_6 : decode prog_6_method_24_code 6 = .ok (.dup, 1) := by decide +kernel
theorem d_RM_keepBlock_7 : decode prog_6_method_24_code 7 = .ok (.getfield 129, 3) := by decide +kernel
theorem d_RM_keepBlock_10 : decode prog_6_method_24_code 10 = .ok (.iconst 1, 1) := by decide +kernel
theorem d_RM_keepBlock_11 : decode prog_6_method_24_code 11 = .ok (.iadd, 1) := by decide +kernel
theorem d_RM_keepBlock_12 : decode prog_6_method_24_code 12 = .ok (.putfield 129, 3) := by decide +kernel
theorem d_RM_keepBlock_15 : decode prog_6_method_24_code 15 = .ok (.aload_n 0, 1) := by decide +kernel
theorem d_RM_keepBlock_16 : decode prog_6_method_24_code 16 = .ok (.getfield 31, 3) := by decide +kernel
theorem d_RM_keepBlock_19 : decode prog_6_method_24_code 19 = .ok (.iload_n 2, 1) := by decide +kernel
theorem d_RM_keepBlock_20 : decode prog_6_method_24_code 20 = .ok (.bipush 64, 2) := by decide +kernel
theorem d_RM_keepBlock_22 : decode prog_6_method_24_code 22 = .ok (.iastore, 1) := by decide +kernel
theorem d_RM_keepBlock_23 : decode prog_6_method_24_code 23 = .ok (.iload_n 1, 1) := by decide +kernel
theorem d_RM_keepBlock_24 : decode prog_6_method_24_code 24 = .ok (.istore_n 3, 1) := by decide +kernel
theorem d_RM_keepBlock_25 : decode prog_6_method_24_code 25 = .ok (.iload_n 3, 1) := by decide +kernel
theorem d_RM_keepBlock_26 : decode prog_6_method_24_code 26 = .ok (.aload_n 0, 1) := by decide +kernel
theorem d_RM_keepBlock_27 : decode prog_6_method_24_code 27 = .ok (.getfield 113, 3) := by decide +kernel
theorem d_RM_keepBlock_30 : decode prog_6_method_24_code 30 = .ok (.if_icmp .ge 103, 3) := by decide +kernel
theorem d_RM_keepBlock_33 : decode prog_6_method_24_code 33 = .ok (.aload_n 0, 1) := by decide +kernel
theorem d_RM_keepBlock_34 : decode prog_6_method_24_code 34 = .ok (.getfield 25, 3) := by decide +kernel
theorem d_RM_keepBlock_37 : decode prog_6_method_24_code 37 = .ok (.iload_n 3, 1) := by decide +kernel
theorem d_RM_keepBlock_38 : decode prog_6_method_24_code 38 = .ok (.iaload, 1) := by decide +kernel
theorem d_RM_keepBlock_39 : decode prog_6_method_24_code 39 = .ok (.iload_n 1, 1) := by decide +kernel
theorem d_RM_keepBlock_40 : decode prog_6_method_24_code 40 = .ok (.if_icmp .ne 87, 3) := by decide +kernel
theorem d_RM_keepBlock_43 : decode prog_6_method_24_code 43 = .ok (.aload_n 0, 1) := by decide +kernel
theorem d_RM_keepBlock_44 : decode prog_6_method_24_code 44 = .ok (.getfield 53, 3) := by decide +kernel
theorem d_RM_keepBlock_47 : decode prog_6_method_24_code 47 = .ok (.iload_n 3, 1) := by decide +kernel
theorem d_RM_keepBlock_48 : decode prog_6_method_24_code 48 = .ok (.iload_n 2, 1) := by decide +kernel
theorem d_RM_keepBlock_49 : decode prog_6_method_24_code 49 = .ok (.iastore, 1) := by decide +kernel
theorem d_RM_keepBlock_50 : decode prog_6_method_24_code 50 = .ok (.aload_n 0, 1) := by decide +kernel
theorem d_RM_keepBlock_51 : decode prog_6_method_24_code 51 = .ok (.getfield 28, 3) := by decide +kernel
theorem d_RM_keepBlock_54 : decode prog_6_method_24_code 54 = .ok (.iload_n 2, 1) := by decide +kernel
theorem d_RM_keepBlock_55 : decode prog_6_method_24_code 55 = .ok (.aload_n 0, 1) := by decide +kernel
theorem d_RM_keepBlock_56 : decode prog_6_method_24_code 56 = .ok (.getfield 19, 3) := by decide +kernel
theorem d_RM_keepBlock_59 : decode prog_6_method_24_code 59 = .ok (.iconst 4, 1) := by decide +kernel
theorem d_RM_keepBlock_60 : decode prog_6_method_24_code 60 = .ok (.iload_n 3, 1) := by decide +kernel
theorem d_RM_keepBlock_61 : decode prog_6_method_24_code 61 = .ok (.imul, 1) := by decide +kernel
theorem d_RM_keepBlock_62 : decode prog_6_method_24_code 62 = .ok (.iaload, 1) := by decide +kernel
theorem d_RM_keepBlock_63 : decode prog_6_method_24_code 63 = .ok (.aload_n 0, 1) := by decide +kernel
theorem d_RM_keepBlock_64 : decode prog_6_method_24_code 64 = .ok (.getfield 19, 3) := by decide +kernel
theorem d_RM_keepBlock_67 : decode prog_6_method_24_code 67 = .ok (.iconst 4, 1) := by decide +kernel
theorem d_RM_keepBlock_68 : decode prog_6_method_24_code 68 = .ok (.iload_n 3, 1) := by decide +kernel
theorem d_RM_keepBlock_69 : decode prog_6_method_24_code 69 = .ok (.imul, 1) := by decide +kernel
theorem d_RM_keepBlock_70 : decode prog_6_method_24_code 70 = .ok (.iconst 1, 1) := by decide +kernel
theorem d_RM_keepBlock_71 : decode prog_6_method_24_code 71 = .ok (.iadd, 1) := by decide +kernel
theorem d_RM_keepBlock_72 : decode prog_6_method_24_code 72 = .ok (.iaload, 1) := by decide +kernel
theorem d_RM_keepBlock_73 : decode prog_6_method_24_code 73 = .ok (.aload_n 0, 1) := by decide +kernel
theorem d_RM_keepBlock_74 : decode prog_6_method_24_code 74 = .ok (.getfield 19, 3) := by decide +kernel
theorem d_RM_keepBlock_77 : decode prog_6_method_24_code 77 = .ok (.iconst 4, 1) := by decide +kernel
theorem d_RM_keepBlock_78 : decode prog_6_method_24_code 78 = .ok (.iload_n 3, 1) := by decide +kernel
theorem d_RM_keepBlock_79 : decode prog_6_method_24_code 79 = .ok (.imul, 1) := by decide +kernel
theorem d_RM_keepBlock_80 : decode prog_6_method_24_code 80 = .ok (.iconst 2, 1) := by decide +kernel
theorem d_RM_keepBlock_81 : decode prog_6_method_24_code 81 = .ok (.iadd, 1) := by decide +kernel
theorem d_RM_keepBlock_82 : decode prog_6_method_24_code 82 = .ok (.iaload, 1) := by decide +kernel
theorem d_RM_keepBlock_83 : decode prog_6_method_24_code 83 = .ok (.aload_n 0, 1) := by decide +kernel
theorem d_RM_keepBlock_84 : decode prog_6_method_24_code 84 = .ok (.getfield 19, 3) := by decide +kernel
theorem d_RM_keepBlock_87 : decode prog_6_method_24_code 87 = .ok (.iconst 4, 1) := by decide +kernel
theorem d_RM_keepBlock_88 : decode prog_6_method_24_code 88 = .ok (.iload_n 3, 1) := by decide +kernel
theorem d_RM_keepBlock_89 : decode prog_6_method_24_code 89 = .ok (.imul, 1) := by decide +kernel
theorem d_RM_keepBlock_90 : decode prog_6_method_24_code 90 = .ok (.iconst 3, 1) := by decide +kernel
theorem d_RM_keepBlock_91 : decode prog_6_method_24_code 91 = .ok (.iadd, 1) := by decide +kernel
theorem d_RM_keepBlock_92 : decode prog_6_method_24_code 92 = .ok (.iaload, 1) := by decide +kernel
theorem d_RM_keepBlock_93 : decode prog_6_method_24_code 93 = .ok (.iload_n 3, 1) := by decide +kernel
theorem d_RM_keepBlock_94 : decode prog_6_method_24_code 94 = .ok (.iload_n 1, 1) := by decide +kernel
theorem d_RM_keepBlock_95 : decode prog_6_method_24_code 95 = .ok (.if_icmp .ne 7, 3) := by decide +kernel
theorem d_RM_keepBlock_98 : decode prog_6_method_24_code 98 = .ok (.iconst 1, 1) := by decide +kernel
theorem d_RM_keepBlock_99 : decode prog_6_method_24_code 99 = .ok (.goto 4, 3) := by decide +kernel
theorem d_RM_keepBlock_102 : decode prog_6_method_24_code 102 = .ok (.iconst 0, 1) := by decide +kernel
theorem d_RM_keepBlock_103 : decode prog_6_method_24_code 103 = .ok (.invokestatic 116, 3) := by decide +kernel
theorem d_RM_keepBlock_106 : decode prog_6_method_24_code 106 = .ok (.aload_n 0, 1) := by decide +kernel
theorem d_RM_keepBlock_107 : decode prog_6_method_24_code 107 = .ok (.getfield 31, 3) := by decide +kernel
theorem d_RM_keepBlock_110 : decode prog_6_method_24_code 110 = .ok (.iload_n 2, 1) := by decide +kernel
theorem d_RM_keepBlock_111 : decode prog_6_method_24_code 111 = .ok (.aload_n 0, 1) := by decide +kernel
theorem d_RM_keepBlock_112 : decode prog_6_method_24_code 112 = .ok (.getfield 31, 3) := by decide +kernel
theorem d_RM_keepBlock_115 : decode prog_6_method_24_code 115 = .ok (.iload_n 2, 1) := by decide +kernel
theorem d_RM_keepBlock_116 : decode prog_6_method_24_code 116 = .ok (.iaload, 1) := by decide +kernel
theorem d_RM_keepBlock_117 : decode prog_6_method_24_code 117 = .ok (.aload_n 0, 1) := by decide +kernel
theorem d_RM_keepBlock_118 : decode prog_6_method_24_code 118 = .ok (.getfield 22, 3) := by decide +kernel
theorem d_RM_keepBlock_121 : decode prog_6_method_24_code 121 = .ok (.iload_n 3, 1) := by decide +kernel
theorem d_RM_keepBlock_122 : decode prog_6_method_24_code 122 = .ok (.iaload, 1) := by decide +kernel
theorem d_RM_keepBlock_123 : decode prog_6_method_24_code 123 = .ok (.invokestatic 91, 3) := by decide +kernel
theorem d_RM_keepBlock_126 : decode prog_6_method_24_code 126 = .ok (.iastore, 1) := by decide +kernel
theorem d_RM_keepBlock_127 : decode prog_6_method_24_code 127 = .ok (.iinc 3 1, 3) := by decide +kernel
theorem d_RM_keepBlock_130 : decode prog_6_method_24_code 130 = .ok (.goto (-105), 3) := by decide +kernel
theorem d_RM_keepBlock_133 : decode prog_6_method_24_code 133 = .ok (.aload_n 0, 1) := by decide +kernel
theorem d_RM_keepBlock_134 : decode prog_6_method_24_code 134 = .ok (.iconst 0, 1) := by decide +kernel
theorem d_RM_keepBlock_135 : decode prog_6_method_24_code 135 = .ok (.putfield 142, 3) := by decide +kernel
theorem d_RM_keepBlock_138 : decode prog_6_method_24_code 138 = .ok (.iload_n 1, 1) := by decide +kernel
theorem d_RM_keepBlock_139 : decode prog_6_method_24_code 139 = .ok (.istore_n 3, 1) := by decide +kernel
theorem d_RM_keepBlock_140 : decode prog_6_method_24_code 140 = .ok (.iload_n 3, 1) := by decide +kernel
theorem d_RM_keepBlock_141 : decode prog_6_method_24_code 141 = .ok (.aload_n 0, 1) := by decide +kernel
theorem d_RM_keepBlock_142 : decode prog_6_method_24_code 142 = .ok (.getfield 113, 3) := by decide +kernel
theorem d_RM_keepBlock_145 : decode prog_6_method_24_code 145 = .ok (.if_icmp .ge 33, 3) := by decide +kernel
theorem d_RM_keepBlock_148 : decode prog_6_method_24_code 148 = .ok (.aload_n 0, 1) := by decide +kernel
theorem d_RM_keepBlock_149 : decode prog_6_method_24_code 149 = .ok (.dup, 1) := by decide +kernel
theorem d_RM_keepBlock_150 : decode prog_6_method_24_code 150 = .ok (.getfield 142, 3) := by decide +kernel
theorem d_RM_keepBlock_153 : decode prog_6_method_24_code 153 = .ok (.aload_n 0, 1) := by decide +kernel
theorem d_RM_keepBlock_154 : decode prog_6_method_24_code 154 = .ok (.getfield 25, 3) := by decide +kernel
theorem d_RM_keepBlock_157 : decode prog_6_method_24_code 157 = .ok (.iload_n 3, 1) := by decide +kernel
theorem d_RM_keepBlock_158 : decode prog_6_method_24_code 158 = .ok (.iaload, 1) := by decide +kernel
theorem d_RM_keepBlock_159 : decode prog_6_method_24_code 159 = .ok (.iload_n 1, 1) := by decide +kernel
theorem d_RM_keepBlock_160 : decode prog_6_method_24_code 160 = .ok (.if_icmp .ne 7, 3) := by decide +kernel
theorem d_RM_keepBlock_163 : decode prog_6_method_24_code 163 = .ok (.iconst 1, 1) := by decide +kernel
theorem d_RM_keepBlock_164 : decode prog_6_method_24_code 164 = .ok (.goto 4, 3) := by decide +kernel
theorem d_RM_keepBlock_167 : decode prog_6_method_24_code 167 = .ok (.iconst 0, 1) := by decide +kernel
theorem d_RM_keepBlock_168 : decode prog_6_method_24_code 168 = .ok (.iadd, 1) := by decide +kernel
theorem d_RM_keepBlock_169 : decode prog_6_method_24_code 169 = .ok (.putfield 142, 3) := by decide +kernel
theorem d_RM_keepBlock_172 : decode prog_6_method_24_code 172 = .ok (.iinc 3 1, 3) := by decide +kernel
theorem d_RM_keepBlock_175 : decode prog_6_method_24_code 175 = .ok (.goto (-35), 3) := by decide +kernel
theorem d_RM_keepBlock_178 : decode prog_6_method_24_code 178 = .ok (.aload_n 0, 1) := by decide +kernel
theorem d_RM_keepBlock_179 : decode prog_6_method_24_code 179 = .ok (.getfield 34, 3) := by decide +kernel
theorem d_RM_keepBlock_182 : decode prog_6_method_24_code 182 = .ok (.iload_n 2, 1) := by decide +kernel
theorem d_RM_keepBlock_183 : decode prog_6_method_24_code 183 = .ok (.aload_n 0, 1) := by decide +kernel
theorem d_RM_keepBlock_184 : decode prog_6_method_24_code 184 = .ok (.iload_n 2, 1) := by decide +kernel
theorem d_RM_keepBlock_185 : decode prog_6_method_24_code 185 = .ok (.invokevirtual 145, 3) := by decide +kernel
theorem d_RM_keepBlock_188 : decode prog_6_method_24_code 188 = .ok (.iastore, 1) := by decide +kernel
theorem d_RM_keepBlock_189 : decode prog_6_method_24_code 189 = .ok (.iconst 0, 1) := by decide +kernel
theorem d_RM_keepBlock_190 : decode prog_6_method_24_code 190 = .ok (.istore_n 3, 1) := by decide +kernel
theorem d_RM_keepBlock_191 : decode prog_6_method_24_code 191 = .ok (.sipush 4097, 3) := by decide +kernel
theorem d_RM_keepBlock_194 : decode prog_6_method_24_code 194 = .ok (.istore 4, 2) := by decide +kernel
theorem d_RM_keepBlock_196 : decode prog_6_method_24_code 196 = .ok (.iconst 0, 1) := by decide +kernel
theorem d_RM_keepBlock_197 : decode prog_6_method_24_code 197 = .ok (.istore 5, 2) := by decide +kernel
theorem d_RM_keepBlock_199 : decode prog_6_method_24_code 199 = .ok (.iload 5, 2) := by decide +kernel
theorem d_RM_keepBlock_201 : decode prog_6_method_24_code 201 = .ok (.aload_n 0, 1) := by decide +kernel
theorem d_RM_keepBlock_202 : decode prog_6_method_24_code 202 = .ok (.getfield 73, 3) := by decide +kernel
theorem d_RM_keepBlock_205 : decode prog_6_method_24_code 205 = .ok (.if_icmp .ge 48, 3) := by decide +kernel
theorem d_RM_keepBlock_208 : decode prog_6_method_24_code 208 = .ok (.aload_n 0, 1) := by decide +kernel
theorem d_RM_keepBlock_209 : decode prog_6_method_24_code 209 = .ok (.getfield 25, 3) := by decide +kernel
theorem d_RM_keepBlock_212 : decode prog_6_method_24_code 212 = .ok (.aload_n 0, 1) := by decide +kernel
theorem d_RM_keepBlock_213 : decode prog_6_method_24_code 213 = .ok (.iload 5, 2) := by decide +kernel
theorem d_RM_keepBlock_215 : decode prog_6_method_24_code 215 = .ok (.invokevirtual 139, 3) := by decide +kernel
theorem d_RM_keepBlock_218 : decode prog_6_method_24_code 218 = .ok (.iaload, 1) := by decide +kernel
theorem d_RM_keepBlock_219 : decode prog_6_method_24_code 219 = .ok (.iload_n 1, 1) := by decide +kernel
theorem d_RM_keepBlock_220 : decode prog_6_method_24_code 220 = .ok (.if_icmp .ne 27, 3) := by decide +kernel
theorem d_RM_keepBlock_223 : decode prog_6_method_24_code 223 = .ok (.iload_n 3, 1) := by decide +kernel
theorem d_RM_keepBlock_224 : decode prog_6_method_24_code 224 = .ok (.aload_n 0, 1) := by decide +kernel
theorem d_RM_keepBlock_225 : decode prog_6_method_24_code 225 = .ok (.iload 5, 2) := by decide +kernel
theorem d_RM_keepBlock_227 : decode prog_6_method_24_code 227 = .ok (.invokevirtual 106, 3) := by decide +kernel
theorem d_RM_keepBlock_230 : decode prog_6_method_24_code 230 = .ok (.invokestatic 97, 3) := by decide +kernel
theorem d_RM_keepBlock_233 : decode prog_6_method_24_code 233 = .ok (.istore_n 3, 1) := by decide +kernel
theorem d_RM_keepBlock_234 : decode prog_6_method_24_code 234 = .ok (.iload 4, 2) := by decide +kernel
theorem d_RM_keepBlock_236 : decode prog_6_method_24_code 236 = .ok (.aload_n 0, 1) := by decide +kernel
theorem d_RM_keepBlock_237 : decode prog_6_method_24_code 237 = .ok (.iload 5, 2) := by decide +kernel
theorem d_RM_keepBlock_239 : decode prog_6_method_24_code 239 = .ok (.invokevirtual 106, 3) := by decide +kernel
theorem d_RM_keepBlock_242 : decode prog_6_method_24_code 242 = .ok (.invokestatic 91, 3) := by decide +kernel
theorem d_RM_keepBlock_245 : decode prog_6_method_24_code 245 = .ok (.istore 4, 2) := by decide +kernel
theorem d_RM_keepBlock_247 : decode prog_6_method_24_code 247 = .ok (.iinc 5 1, 3) := by decide +kernel
theorem d_RM_keepBlock_250 : decode prog_6_method_24_code 250 = .ok (.goto (-51), 3) := by decide +kernel
theorem d_RM_keepBlock_253 : decode prog_6_method_24_code 253 = .ok (.aload_n 0, 1) := by decide +kernel
theorem d_RM_keepBlock_254 : decode prog_6_method_24_code 254 = .ok (.getfield 37, 3) := by decide +kernel
theorem d_RM_keepBlock_257 : decode prog_6_method_24_code 257 = .ok (.iload_n 2, 1) := by decide +kernel
theorem d_RM_keepBlock_258 : decode prog_6_method_24_code 258 = .ok (.iconst 4, 1) := by decide +kernel
theorem d_RM_keepBlock_259 : decode prog_6_method_24_code 259 = .ok (.iload_n 3, 1) := by decide +kernel
theorem d_RM_keepBlock_260 : decode prog_6_method_24_code 260 = .ok (.iload 4, 2) := by decide +kernel
theorem d_RM_keepBlock_262 : decode prog_6_method_24_code 262 = .ok (.isub, 1) := by decide +kernel
theorem d_RM_keepBlock_263 : decode prog_6_method_24_code 263 = .ok (.imul, 1) := by decide +kernel
theorem d_RM_keepBlock_264 : decode prog_6_method_24_code 264 = .ok (.iload_n 3, 1) := by decide +kernel
theorem d_RM_keepBlock_265 : decode prog_6_method_24_code 265 = .ok (.if_icmp .gt 7, 3) := by decide +kernel
theorem d_RM_keepBlock_268 : decode prog_6_method_24_code 268 = .ok (.iconst 1, 1) := by decide +kernel
theorem d_RM_keepBlock_269 : decode prog_6_method_24_code 269 = .ok (.goto 4, 3) := by decide +kernel
theorem d_RM_keepBlock_272 : decode prog_6_method_24_code 272 = .ok (.iconst 0, 1) := by decide +kernel
theorem d_RM_keepBlock_273 : decode prog_6_method_24_code 273 = .ok (.bastore, 1) := by decide +kernel
theorem d_RM_keepBlock_274 : decode prog_6_method_24_code 274 = .ok (.return_, 1) := by decide +kernel
theorem d_RM_isInPane_0 : decode prog_6_method_25_code 0 = .ok (.iconst 0, 1) := by decide +kernel
theorem d_RM_isInPane_1 : decode prog_6_method_25_code 1 = .ok (.istore_n 2, 1) := by decide +kernel
theorem d_RM_isInPane_2 : decode prog_6_method_25_code 2 = .ok (.iconst 0, 1) := by decide +kernel
theorem d_RM_isInPane_3 : decode prog_6_method_25_code 3 = .ok (.istore_n 3, 1) := by decide +kernel
theorem d_RM_isInPane_4 : decode prog_6_method_25_code 4 = .ok (.iload_n 3, 1) := by decide +kernel
theorem d_RM_isInPane_5 : decode prog_6_method_25_code 5 = .ok (.aload_n 0, 1) := by decide +kernel
theorem d_RM_isInPane_6 : decode prog_6_method_25_code 6 = .ok (.getfield 76, 3) := by decide +kernel
theorem d_RM_isInPane_9 : decode prog_6_method_25_code 9 = .ok (.if_icmp .ge 171, 3) := by decide +kernel
theorem d_RM_isInPane_12 : decode prog_6_method_25_code 12 = .ok (.aload_n 0, 1) := by decide +kernel
theorem d_RM_isInPane_13 : decode prog_6_method_25_code 13 = .ok (.getfield 28, 3) := by decide +kernel
theorem d_RM_isInPane_16 : decode prog_6_method_25_code 16 = .ok (.iconst 4, 1) := by decide +kernel
theorem d_RM_isInPane_17 : decode prog_6_method_25_code 17 = .ok (.iload_n 1, 1) := by decide +kernel
theorem d_RM_isInPane_18 : decode prog_6_method_25_code 18 = .ok (.imul, 1) := by decide +kernel
theorem d_RM_isInPane_19 : decode prog_6_method_25_code 19 = .ok (.iaload, 1) := by decide +kernel
theorem d_RM_isInPane_20 : decode prog_6_method_25_code 20 = .ok (.aload_n 0, 1) := by decide +kernel
theorem d_RM_isInPane_21 : decode prog_6_method_25_code 21 = .ok (.getfield 13, 3) := by decide +kernel
theorem d_RM_isInPane_24 : decode prog_6_method_25_code 24 = .ok (.iconst 4, 1) := by decide +kernel
theorem d_RM_isInPane_25 : decode prog_6_method_25_code 25 = .ok (.iload_n 3, 1) := by decide +kernel
theorem d_RM_isInPane_26 : decode prog_6_method_25_code 26 = .ok (.imul, 1) := by decide +kernel
theorem d_RM_isInPane_27 : decode prog_6_method_25_code 27 = .ok (.iaload, 1) := by decide +kernel
theorem d_RM_isInPane_28 : decode prog_6_method_25_code 28 = .ok (.if_icmp .lt 48, 3) := by decide +kernel
theorem d_RM_isInPane_31 : decode prog_6_method_25_code 31 = .ok (.aload_n 0, 1) := by decide +kernel
theorem d_RM_isInPane_32 : decode prog_6_method_25_code 32 = .ok (.getfield 28, 3) := by decide +kernel
theorem d_RM_isInPane_35 : decode prog_6_method_25_code 35 = .ok (.iconst 4, 1) := by decide +kernel
theorem d_RM_isInPane_36 : decode prog_6_method_25_code 36 = .ok (.iload_n 1, 1) := by decide +kernel
theorem d_RM_isInPane_37 : decode prog_6_method_25_code 37 = .ok (.imul, 1) := by decide +kernel
theorem d_RM_isInPane_38 : decode prog_6_method_25_code 38 = .ok (.iaload, 1) := by decide +kernel
theorem d_RM_isInPane_39 : decode prog_6_method_25_code 39 = .ok (.aload_n 0, 1) := by decide +kernel
theorem d_RM_isInPane_40 : decode prog_6_method_25_code 40 = .ok (.getfield 28, 3) := by decide +kernel
theorem d_RM_isInPane_43 : decode prog_6_method_25_code 43 = .ok (.iconst 4, 1) := by decide +kernel
theorem d_RM_isInPane_44 : decode prog_6_method_25_code 44 = .ok (.iload_n 1, 1) := by decide +kernel
theorem d_RM_isInPane_45 : decode prog_6_method_25_code 45 = .ok (.imul, 1) := by decide +kernel
theorem d_RM_isInPane_46 : decode prog_6_method_25_code 46 = .ok (.iconst 2, 1) := by decide +kernel
theorem d_RM_isInPane_47 : decode prog_6_method_25_code 47 = .ok (.iadd, 1) := by decide +kernel
theorem d_RM_isInPane_48 : decode prog_6_method_25_code 48 = .ok (.iaload, 1) := by decide +kernel
theorem d_RM_isInPane_49 : decode prog_6_method_25_code 49 = .ok (.iadd, 1) := by decide +kernel
theorem d_RM_isInPane_50 : decode prog_6_method_25_code 50 = .ok (.aload_n 0, 1) := by decide +kernel
theorem d_RM_isInPane_51 : decode prog_6_method_25_code 51 = .ok (.getfield 13, 3) := by decide +kernel
theorem d_RM_isInPane_54 : decode prog_6_method_25_code 54 = .ok (.iconst 4, 1) := by decide +kernel
theorem d_RM_isInPane_55 : decode prog_6_method_25_code 55 = .ok (.iload_n 3, 1) := by decide +kernel
theorem d_RM_isInPane_56 : decode prog_6_method_25_code 56 = .ok (.imul, 1) := by decide +kernel
theorem d_RM_isInPane_57 : decode prog_6_method_25_code 57 = .ok (.iaload, 1) := by decide +kernel
theorem d_RM_isInPane_58 : decode prog_6_method_25_code 58 = .ok (.aload_n 0, 1) := by decide +kernel
theorem d_RM_isInPane_59 : decode prog_6_method_25_code 59 = .ok (.getfield 13, 3) := by decide +kernel
theorem d_RM_isInPane_62 : decode prog_6_method_25_code 62 = .ok (.iconst 4, 1) := by decide +kernel
theorem d_RM_isInPane_63 : decode prog_6_method_25_code 63 = .ok (.iload_n 3, 1) := by decide +kernel
theorem d_RM_isInPane_64 : decode prog_6_method_25_code 64 = .ok (.imul, 1) := by decide +kernel
theorem d_RM_isInPane_65 : decode prog_6_method_25_code 65 = .ok (.iconst 2, 1) := by decide +kernel
theorem d_RM_isInPane_66 : decode prog_6_method_25_code 66 = .ok (.iadd, 1) := by decide +kernel
theorem d_RM_isInPane_67 : decode prog_6_method_25_code 67 = .ok (.iaload, 1) := by decide +kernel
theorem d_RM_isInPane_68 : decode prog_6_method_25_code 68 = .ok (.iadd, 1) := by decide +kernel
theorem d_RM_isInPane_69 : decode prog_6_method_25_code 69 = .ok (.if_icmp .gt 7, 3) := by decide +kernel
theorem d_RM_isInPane_72 : decode prog_6_method_25_code 72 = .ok (.iconst 1, 1) := by decide +kernel
theorem d_RM_isInPane_73 : decode prog_6_method_25_code 73 = .ok (.goto 4, 3) := by decide +kernel
theorem d_RM_isInPane_76 : decode prog_6_method_25_code 76 = .ok (.iconst 0, 1) := by decide +kernel
theorem d_RM_isInPane_77 : decode prog_6_method_25_code 77 = .ok (.istore 4, 2) := by decide +kernel
theorem d_RM_isInPane_79 : decode prog_6_method_25_code 79 = .ok (.aload_n 0, 1) := by decide +kernel
theorem d_RM_isInPane_80 : decode prog_6_method_25_code 80 = .ok (.getfield 28, 3) := by decide +kernel
theorem d_RM_isInPane_83 : decode prog_6_method_25_code 83 = .ok (.iconst 4, 1) := by decide +kernel
theorem d_RM_isInPane_84 : decode prog_6_method_25_code 84 = .ok (.iload_n 1, 1) := by decide +kernel
theorem d_RM_isInPane_85 : decode prog_6_method_25_code 85 = .ok (.imul, 1) := by decide +kernel
theorem d_RM_isInPane_86 : decode prog_6_method_25_code 86 = .ok (.iconst 1, 1) := by decide +kernel
theorem d_RM_isInPane_87 : decode prog_6_method_25_code 87 = .ok (.iadd, 1) := by decide +kernel
theorem d_RM_isInPane_88 : decode prog_6_method_25_code 88 = .ok (.iaload, 1) := by decide +kernel
theorem d_RM_isInPane_89 : decode prog_6_method_25_code 89 = .ok (.aload_n 0, 1) := by decide +kernel
theorem d_RM_isInPane_90 : decode prog_6_method_25_code 90 = .ok (.getfield 13, 3) := by decide +kernel
theorem d_RM_isInPane_93 : decode prog_6_method_25_code 93 = .ok (.iconst 4, 1) := by decide +kernel
theorem d_RM_isInPane_94 : decode prog_6_method_25_code 94 = .ok (.iload_n 3, 1) := by decide +kernel
theorem d_RM_isInPane_95 : decode prog_6_method_25_code 95 = .ok (.imul, 1) := by decide +kernel
theorem d_RM_isInPane_96 : decode prog_6_method_25_code 96 = .ok (.iconst 1, 1) := by decide +kernel
theorem d_RM_isInPane_97 : decode prog_6_method_25_code 97 = .ok (.iadd, 1) := by decide +kernel
theorem d_RM_isInPane_98 : decode prog_6_method_25_code 98 = .ok (.iaload, 1) := by decide +kernel
theorem d_RM_isInPane_99 : decode prog_6_method_25_code 99 = .ok (.if_icmp .lt 52, 3) := by decide +kernel
theorem d_RM_isInPane_102 : decode prog_6_method_25_code 102 = .ok (.aload_n 0, 1) := by decide +kernel
theorem d_RM_isInPane_103 : decode prog_6_method_25_code 103 = .ok (.getfield 28, 3) := by decide +kernel
theorem d_RM_isInPane_106 : decode prog_6_method_25_code 106 = .ok (.iconst 4, 1) := by decide +kernel
theorem d_RM_isInPane_107 : decode prog_6_method_25_code 107 = .ok (.iload_n 1, 1) := by decide +kernel
theorem d_RM_isInPane_108 : decode prog_6_method_25_code 108 = .ok (.imul, 1) := by decide +kernel
theorem d_RM_isInPane_109 : decode prog_6_method_25_code 109 = .ok (.iconst 1, 1) := by decide +kernel
theorem d_RM_isInPane_110 : decode prog_6_method_25_code 110 = .ok (.iadd, 1) := by decide +kernel
theorem d_RM_isInPane_111 : decode prog_6_method_25_code 111 = .ok (.iaload, 1) := by decide +kernel
theorem d_RM_isInPane_112 : decode prog_6_method_25_code 112 = .ok (.aload_n 0, 1) := by decide +kernel
theorem d_RM_isInPane_113 : decode prog_6_method_25_code 113 = .ok (.getfield 28, 3) := by decide +kernel
theorem d_RM_isInPane_116 : decode prog_6_method_25_code 116 = .ok (.iconst 4, 1) := by decide +kernel
theorem d_RM_isInPane_117 : decode prog_6_method_25_code 117 = .ok (.iload_n 1, 1) := by decide +kernel
theorem d_RM_isInPane_118 : decode prog_6_method_25_code 118 = .ok (.imul, 1) := by decide +kernel
theorem d_RM_isInPane_119 : decode prog_6_method_25_code 119 = .ok (.iconst 3, 1) := by decide +kernel
theorem d_RM_isInPane_120 : decode prog_6_method_25_code 120 = .ok (.iadd, 1) := by decide +kernel
theorem d_RM_isInPane_121 : decode prog_6_method_25_code 121 = .ok (.iaload, 1) := by decide +kernel
theorem d_RM_isInPane_122 : decode prog_6_method_25_code 122 = .ok (.iadd, 1) := by decide +kernel
theorem d_RM_isInPane_123 : decode prog_6_method_25_code 123 = .ok (.aload_n 0, 1) := by decide +kernel
theorem d_RM_isInPane_124 : decode prog_6_method_25_code 124 = .ok (.getfield 13, 3) := by decide +kernel
theorem d_RM_isInPane_127 : decode prog_6_method_25_code 127 = .ok (.iconst 4, 1) := by decide +kernel
theorem d_RM_isInPane_128 : decode prog_6_method_25_code 128 = .ok (.iload_n 3, 1) := by decide +kernel
theorem d_RM_isInPane_129 : decode prog_6_method_25_code 129 = .ok (.imul, 1) := by decide +kernel
theorem d_RM_isInPane_130 : decode prog_6_method_25_code 130 = .ok (.iconst 1, 1) := by decide +kernel
theorem d_RM_isInPane_131 : decode prog_6_method_25_code 131 = .ok (.iadd, 1) := by decide +kernel
theorem d_RM_isInPane_132 : decode prog_6_method_25_code 132 = .ok (.iaload, 1) := by decide +kernel
theorem d_RM_isInPane_133 : decode prog_6_method_25_code 133 = .ok (.aload_n 0, 1) := by decide +kernel
theorem d_RM_isInPane_134 : decode prog_6_method_25_code 134 = .ok (.getfield 13, 3) := by decide +kernel
theorem d_RM_isInPane_137 : decode prog_6_method_25_code 137 = .ok (.iconst 4, 1) := by decide +kernel
theorem d_RM_isInPane_138 : decode prog_6_method_25_code 138 = .ok (.iload_n 3, 1) := by decide +kernel
theorem d_RM_isInPane_139 : decode prog_6_method_25_code 139 = .ok (.imul, 1) := by decide +kernel
theorem d_RM_isInPane_140 : decode prog_6_method_25_code 140 = .ok (.iconst 3, 1) := by decide +kernel
theorem d_RM_isInPane_141 : decode prog_6_method_25_code 141 = .ok (.iadd, 1) := by decide +kernel
theorem d_RM_isInPane_142 : decode prog_6_method_25_code 142 = .ok (.iaload, 1) := by decide +kernel
theorem d_RM_isInPane_143 : decode prog_6_method_25_code 143 = .ok (.iadd, 1) := by decide +kernel
theorem d_RM_isInPane_144 : decode prog_6_method_25_code 144 = .ok (.if_icmp .gt 7, 3) := by decide +kernel
theorem d_RM_isInPane_147 : decode prog_6_method_25_code 147 = .ok (.iconst 1, 1) := by decide +kernel
theorem d_RM_isInPane_148 : decode prog_6_method_25_code 148 = .ok (.goto 4, 3) := by decide +kernel
theorem d_RM_isInPane_151 : decode prog_6_method_25_code 151 = .ok (.iconst 0, 1) := by decide +kernel
theorem d_RM_isInPane_152 : decode prog_6_method_25_code 152 = .ok (.istore 5, 2) := by decide +kernel
theorem d_RM_isInPane_154 : decode prog_6_method_25_code 154 = .ok (.iload_n 2, 1) := by decide +kernel
theorem d_RM_isInPane_155 : decode prog_6_method_25_code 155 = .ok (.ifCond .ne 13, 3) := by decide +kernel
theorem d_RM_isInPane_158 : decode prog_6_method_25_code 158 = .ok (.iload 4, 2) := by decide +kernel
theorem d_RM_isInPane_160 : decode prog_6_method_25_code 160 = .ok (.ifCond .eq 12, 3) := by decide +kernel
theorem d_RM_isInPane_163 : decode prog_6_method_25_code 163 = .ok (.iload 5, 2) := by decide +kernel
theorem d_RM_isInPane_165 : decode prog_6_method_25_code 165 = .ok (.ifCond .eq 7, 3) := by decide +kernel
theorem d_RM_isInPane_168 : decode prog_6_method_25_code 168 = .ok (.iconst 1, 1) := by decide +kernel
theorem d_RM_isInPane_169 : decode prog_6_method_25_code 169 = .ok (.goto 4, 3) := by decide +kernel
theorem d_RM_isInPane_172 : decode prog_6_method_25_code 172 = .ok (.iconst 0, 1) := by decide +kernel
theorem d_RM_isInPane_173 : decode prog_6_method_25_code 173 = .ok (.istore_n 2, 1) := by decide +kernel
theorem d_RM_isInPane_174 : decode prog_6_method_25_code 174 = .ok (.iinc 3 1, 3) := by decide +kernel
theorem d_RM_isInPane_177 : decode prog_6_method_25_code 177 = .ok (.goto (-173), 3) := by decide +kernel
theorem d_RM_isInPane_180 : decode prog_6_method_25_code 180 = .ok (.iload_n 2, 1) := by decide +kernel
theorem d_RM_isInPane_181 : decode prog_6_method_25_code 181 = .ok (.ireturn, 1) := by decide +kernel
theorem d_RM_linesOf_0 : decode prog_6_method_26_code 0 = .ok (.iconst 0, 1) := by decide +kernel
theorem d_RM_linesOf_1 : decode prog_6_method_26_code 1 = .ok (.istore_n 2, 1) := by decide +kernel
theorem d_RM_linesOf_2 : decode prog_6_method_26_code 2 = .ok (.iconst 0, 1) := by decide +kernel
theorem d_RM_linesOf_3 : decode prog_6_method_26_code 3 = .ok (.istore_n 3, 1) := by decide +kernel
theorem d_RM_linesOf_4 : decode prog_6_method_26_code 4 = .ok (.iload_n 3, 1) := by decide +kernel
theorem d_RM_linesOf_5 : decode prog_6_method_26_code 5 = .ok (.aload_n 0, 1) := by decide +kernel
theorem d_RM_linesOf_6 : decode prog_6_method_26_code 6 = .ok (.getfield 126, 3) := by decide +kernel
theorem d_RM_linesOf_9 : decode prog_6_method_26_code 9 = .ok (.if_icmp .ge 27, 3) := by decide +kernel
theorem d_RM_linesOf_12 : decode prog_6_method_26_code 12 = .ok (.iload_n 2, 1) := by decide +kernel
theorem d_RM_linesOf_13 : decode prog_6_method_26_code 13 = .ok (.aload_n 0, 1) := by decide +kernel
theorem d_RM_linesOf_14 : decode prog_6_method_26_code 14 = .ok (.getfield 53, 3) := by decide +kernel
theorem d_RM_linesOf_17 : decode prog_6_method_26_code 17 = .ok (.iload_n 3, 1) := by decide +kernel
theorem d_RM_linesOf_18 : decode prog_6_method_26_code 18 = .ok (.iaload, 1) := by decide +kernel
theorem d_RM_linesOf_19 : decode prog_6_method_26_code 19 = .ok (.iload_n 1, 1) := by decide +kernel
theorem d_RM_linesOf_20 : decode prog_6_method_26_code 20 = .ok (.if_icmp .ne 7, 3) := by decide +kernel
theorem d_RM_linesOf_23 : decode prog_6_method_26_code 23 = .ok (.iconst 1, 1) := by decide +kernel
theorem d_RM_linesOf_24 : decode prog_6_method_26_code 24 = .ok (.goto 4, 3) := by decide +kernel
theorem d_RM_linesOf_27 : decode prog_6_method_26_code 27 = .ok (.iconst 0, 1) := by decide +kernel
theorem d_RM_linesOf_28 : decode prog_6_method_26_code 28 = .ok (.iadd, 1) := by decide +kernel
theorem d_RM_linesOf_29 : decode prog_6_method_26_code 29 = .ok (.istore_n 2, 1) := by decide +kernel
theorem d_RM_linesOf_30 : decode prog_6_method_26_code 30 = .ok (.iinc 3 1, 3) := by decide +kernel
theorem d_RM_linesOf_33 : decode prog_6_method_26_code 33 = .ok (.goto (-29), 3) := by decide +kernel
theorem d_RM_linesOf_36 : decode prog_6_method_26_code 36 = .ok (.iload_n 2, 1) := by decide +kernel
theorem d_RM_linesOf_37 : decode prog_6_method_26_code 37 = .ok (.ireturn, 1) := by decide +kernel
theorem d_RM_pointsOf_0 : decode prog_6_method_27_code 0 = .ok (.aload_n 0, 1) := by decide +kernel
theorem d_RM_pointsOf_1 : decode prog_6_method_27_code 1 = .ok (.getfield 28, 3) := by decide +kernel
theorem d_RM_pointsOf_4 : decode prog_6_method_27_code 4 = .ok (.iconst 4, 1) := by decide +kernel
theorem d_RM_pointsOf_5 : decode prog_6_method_27_code 5 = .ok (.iload_n 1, 1) := by decide +kernel
theorem d_RM_pointsOf_6 : decode prog_6_method_27_code 6 = .ok (.imul, 1) := by decide +kernel
theorem d_RM_pointsOf_7 : decode prog_6_method_27_code 7 = .ok (.iaload, 1) := by decide +kernel
theorem d_RM_pointsOf_8 : decode prog_6_method_27_code 8 = .ok (.istore_n 2, 1) := by decide +kernel
theorem d_RM_pointsOf_9 : decode prog_6_method_27_code 9 = .ok (.aload_n 0, 1) := by decide +kernel
theorem d_RM_pointsOf_10 : decode prog_6_method_27_code 10 = .ok (.getfield 28, 3) := by decide +kernel
theorem d_RM_pointsOf_13 : decode prog_6_method_27_code 13 = .ok (.iconst 4, 1) := by decide +kernel
theorem d_RM_pointsOf_14 : decode prog_6_method_27_code 14 = .ok (.iload_n 1, 1) := by decide +kernel
theorem d_RM_pointsOf_15 : decode prog_6_method_27_code 15 = .ok (.imul, 1) := by decide +kernel
theorem d_RM_pointsOf_16 : decode prog_6_method_27_code 16 = .ok (.iconst 1, 1) := by decide +kernel
theorem d_RM_pointsOf_17 : decode prog_6_method_27_code 17 = .ok (.iadd, 1) := by decide +kernel
theorem d_RM_pointsOf_18 : decode prog_6_method_27_code 18 = .ok (.iaload, 1) := by decide +kernel
theorem d_RM_pointsOf_19 : decode prog_6_method_27_code 19 = .ok (.istore_n 3, 1) := by decide +kernel
theorem d_RM_pointsOf_20 : decode prog_6_method_27_code 20 = .ok (.aload_n 0, 1) := by decide +kernel
theorem d_RM_pointsOf_21 : decode prog_6_method_27_code 21 = .ok (.getfield 28, 3) := by decide +kernel
theorem d_RM_pointsOf_24 : decode prog_6_method_27_code 24 = .ok (.iconst 4, 1) := by decide +kernel
theorem d_RM_pointsOf_25 : decode prog_6_method_27_code 25 = .ok (.iload_n 1, 1) := by decide +kernel
theorem d_RM_pointsOf_26 : decode prog_6_method_27_code 26 = .ok (.imul, 1) := by decide +kernel
theorem d_RM_pointsOf_27 : decode prog_6_method_27_code 27 = .ok (.iconst 2, 1) := by decide +kernel
theorem d_RM_pointsOf_28 : decode prog_6_method_27_code 28 = .ok (.iadd, 1) := by decide +kernel
theorem d_RM_pointsOf_29 : decode prog_6_method_27_code 29 = .ok (.iaload, 1) := by decide +kernel
theorem d_RM_pointsOf_30 : decode prog_6_method_27_code 30 = .ok (.istore 4, 2) := by decide +kernel
theorem d_RM_pointsOf_32 : decode prog_6_method_27_code 32 = .ok (.aload_n 0, 1) := by decide +kernel
theorem d_RM_pointsOf_33 : decode prog_6_method_27_code 33 = .ok (.getfield 28, 3) := by decide +kernel
theorem d_RM_pointsOf_36 : decode prog_6_method_27_code 36 = .ok (.iconst 4, 1) := by decide +kernel
theorem d_RM_pointsOf_37 : decode prog_6_method_27_code 37 = .ok (.iload_n 1, 1) := by decide +kernel
theorem d_RM_pointsOf_38 : decode prog_6_method_27_code 38 = .ok (.imul, 1) := by decide +kernel
theorem d_RM_pointsOf_39 : decode prog_6_method_27_code 39 = .ok (.iconst 3, 1) := by decide +kernel
theorem d_RM_pointsOf_40 : decode prog_6_method_27_code 40 = .ok (.iadd, 1) := by decide +kernel
theorem d_RM_pointsOf_41 : decode prog_6_method_27_code 41 = .ok (.iaload, 1) := by decide +kernel
theorem d_RM_pointsOf_42 : decode prog_6_method_27_code 42 = .ok (.istore 5, 2) := by decide +kernel
theorem d_RM_pointsOf_44 : decode prog_6_method_27_code 44 = .ok (.iconst 4, 1) := by decide +kernel
theorem d_RM_pointsOf_45 : decode prog_6_method_27_code 45 = .ok (.iload_n 2, 1) := by decide +kernel
theorem d_RM_pointsOf_46 : decode prog_6_method_27_code 46 = .ok (.imul, 1) := by decide +kernel
theorem d_RM_pointsOf_47 : decode prog_6_method_27_code 47 = .ok (.iconst 3, 1) := by decide +kernel
theorem d_RM_pointsOf_48 : decode prog_6_method_27_code 48 = .ok (.aload_n 0, 1) := by decide +kernel
theorem d_RM_pointsOf_49 : decode prog_6_method_27_code 49 = .ok (.getfield 59, 3) := by decide +kernel
theorem d_RM_pointsOf_52 : decode prog_6_method_27_code 52 = .ok (.imul, 1) := by decide +kernel
theorem d_RM_pointsOf_53 : decode prog_6_method_27_code 53 = .ok (.if_icmp .lt 20, 3) := by decide +kernel
theorem d_RM_pointsOf_56 : decode prog_6_method_27_code 56 = .ok (.iconst 3, 1) := by decide +kernel
theorem d_RM_pointsOf_57 : decode prog_6_method_27_code 57 = .ok (.iload_n 3, 1) := by decide +kernel
theorem d_RM_pointsOf_58 : decode prog_6_method_27_code 58 = .ok (.iload 5, 2) := by decide +kernel
theorem d_RM_pointsOf_60 : decode prog_6_method_27_code 60 = .ok (.iadd, 1) := by decide +kernel
theorem d_RM_pointsOf_61 : decode prog_6_method_27_code 61 = .ok (.imul, 1) := by decide +kernel
theorem d_RM_pointsOf_62 : decode prog_6_method_27_code 62 = .ok (.aload_n 0, 1) := by decide +kernel
theorem d_RM_pointsOf_63 : decode prog_6_method_27_code 63 = .ok (.getfield 63, 3) := by decide +kernel
theorem d_RM_pointsOf_66 : decode prog_6_method_27_code 66 = .ok (.if_icmp .gt 7, 3) := by decide +kernel
theorem d_RM_pointsOf_69 : decode prog_6_method_27_code 69 = .ok (.iconst 1, 1) := by decide +kernel
theorem d_RM_pointsOf_70 : decode prog_6_method_27_code 70 = .ok (.goto 4, 3) := by decide +kernel
theorem d_RM_pointsOf_73 : decode prog_6_method_27_code 73 = .ok (.iconst 0, 1) := by decide +kernel
theorem d_RM_pointsOf_74 : decode prog_6_method_27_code 74 = .ok (.istore 6, 2) := by decide +kernel
theorem d_RM_pointsOf_76 : decode prog_6_method_27_code 76 = .ok (.iconst 2, 1) := by decide +kernel
theorem d_RM_pointsOf_77 : decode prog_6_method_27_code 77 = .ok (.iload_n 2, 1) := by decide +kernel
theorem d_RM_pointsOf_78 : decode prog_6_method_27_code 78 = .ok (.iload 4, 2) := by decide +kernel
theorem d_RM_pointsOf_80 : decode prog_6_method_27_code 80 = .ok (.iadd, 1) := by decide +kernel
theorem d_RM_pointsOf_81 : decode prog_6_method_27_code 81 = .ok (.imul, 1) := by decide +kernel
theorem d_RM_pointsOf_82 : decode prog_6_method_27_code 82 = .ok (.aload_n 0, 1) := by decide +kernel
theorem d_RM_pointsOf_83 : decode prog_6_method_27_code 83 = .ok (.getfield 59, 3) := by decide +kernel
theorem d_RM_pointsOf_86 : decode prog_6_method_27_code 86 = .ok (.if_icmp .gt 20, 3) := by decide +kernel
theorem d_RM_pointsOf_89 : decode prog_6_method_27_code 89 = .ok (.iconst 4, 1) := by decide +kernel
theorem d_RM_pointsOf_90 : decode prog_6_method_27_code 90 = .ok (.iload_n 3, 1) := by decide +kernel
theorem d_RM_pointsOf_91 : decode prog_6_method_27_code 91 = .ok (.iload 5, 2) := by decide +kernel
theorem d_RM_pointsOf_93 : decode prog_6_method_27_code 93 = .ok (.iadd, 1) := by decide +kernel
theorem d_RM_pointsOf_94 : decode prog_6_method_27_code 94 = .ok (.imul, 1) := by decide +kernel
theorem d_RM_pointsOf_95 : decode prog_6_method_27_code 95 = .ok (.aload_n 0, 1) := by decide +kernel
theorem d_RM_pointsOf_96 : decode prog_6_method_27_code 96 = .ok (.getfield 63, 3) := by decide +kernel
theorem d_RM_pointsOf_99 : decode prog_6_method_27_code 99 = .ok (.if_icmp .gt 7, 3) := by decide +kernel
theorem d_RM_pointsOf_102 : decode prog_6_method_27_code 102 = .ok (.iconst 1, 1) := by decide +kernel
theorem d_RM_pointsOf_103 : decode prog_6_method_27_code 103 = .ok (.goto 4, 3) := by decide +kernel
theorem d_RM_pointsOf_106 : decode prog_6_method_27_code 106 = .ok (.iconst 0, 1) := by decide +kernel
theorem d_RM_pointsOf_107 : decode prog_6_method_27_code 107 = .ok (.istore 7, 2) := by decide +kernel
theorem d_RM_pointsOf_109 : decode prog_6_method_27_code 109 = .ok (.iload 6, 2) := by decide +kernel
theorem d_RM_pointsOf_111 : decode prog_6_method_27_code 111 = .ok (.ifCond .ne 8, 3) := by decide +kernel
theorem d_RM_pointsOf_114 : decode prog_6_method_27_code 114 = .ok (.iload 7, 2) := by decide +kernel
theorem d_RM_pointsOf_116 : decode prog_6_method_27_code 116 = .ok (.ifCond .eq 13, 3) := by decide +kernel
theorem d_RM_pointsOf_119 : decode prog_6_method_27_code 119 = .ok (.aload_n 0, 1) := by decide +kernel
theorem d_RM_pointsOf_120 : decode prog_6_method_27_code 120 = .ok (.iload_n 1, 1) := by decide +kernel
theorem d_RM_pointsOf_121 : decode prog_6_method_27_code 121 = .ok (.invokevirtual 148, 3) := by decide +kernel
theorem d_RM_pointsOf_124 : decode prog_6_method_27_code 124 = .ok (.ifCond .ne 5, 3) := by decide +kernel
theorem d_RM_pointsOf_127 : decode prog_6_method_27_code 127 = .ok (.iconst 0, 1) := by decide +kernel
theorem d_RM_pointsOf_128 : decode prog_6_method_27_code 128 = .ok (.ireturn, 1) := by decide +kernel
theorem d_RM_pointsOf_129 : decode prog_6_method_27_code 129 = .ok (.aload_n 0, 1) := by decide +kernel
theorem d_RM_pointsOf_130 : decode prog_6_method_27_code 130 = .ok (.getfield 142, 3) := by decide +kernel
theorem d_RM_pointsOf_133 : decode prog_6_method_27_code 133 = .ok (.istore 8, 2) := by decide +kernel
theorem d_RM_pointsOf_135 : decode prog_6_method_27_code 135 = .ok (.iload 8, 2) := by decide +kernel
theorem d_RM_pointsOf_137 : decode prog_6_method_27_code 137 = .ok (.iconst 2, 1) := by decide +kernel
theorem d_RM_pointsOf_138 : decode prog_6_method_27_code 138 = .ok (.if_icmp .lt 15, 3) := by decide +kernel
theorem d_RM_pointsOf_141 : decode prog_6_method_27_code 141 = .ok (.iload 8, 2) := by decide +kernel
theorem d_RM_pointsOf_143 : decode prog_6_method_27_code 143 = .ok (.bipush 6, 2) := by decide +kernel
theorem d_RM_pointsOf_145 : decode prog_6_method_27_code 145 = .ok (.if_icmp .gt 8, 3) := by decide +kernel
theorem d_RM_pointsOf_148 : decode prog_6_method_27_code 148 = .ok (.bipush 30, 2) := by decide +kernel
theorem d_RM_pointsOf_150 : decode prog_6_method_27_code 150 = .ok (.goto 5, 3) := by decide +kernel
theorem d_RM_pointsOf_153 : decode prog_6_method_27_code 153 = .ok (.bipush 10, 2) := by decide +kernel
theorem d_RM_pointsOf_155 : decode prog_6_method_27_code 155 = .ok (.istore 9, 2) := by decide +kernel
theorem d_RM_pointsOf_157 : decode prog_6_method_27_code 157 = .ok (.iload 9, 2) := by decide +kernel
theorem d_RM_pointsOf_159 : decode prog_6_method_27_code 159 = .ok (.iconst 2, 1) := by decide +kernel
theorem d_RM_pointsOf_160 : decode prog_6_method_27_code 160 = .ok (.iload_n 2, 1) := by decide +kernel
theorem d_RM_pointsOf_161 : decode prog_6_method_27_code 161 = .ok (.imul, 1) := by decide +kernel
theorem d_RM_pointsOf_162 : decode prog_6_method_27_code 162 = .ok (.iload 4, 2) := by decide +kernel
theorem d_RM_pointsOf_164 : decode prog_6_method_27_code 164 = .ok (.iadd, 1) := by decide +kernel
theorem d_RM_pointsOf_165 : decode prog_6_method_27_code 165 = .ok (.aload_n 0, 1) := by decide +kernel
theorem d_RM_pointsOf_166 : decode prog_6_method_27_code 166 = .ok (.getfield 59, 3) := by decide +kernel
theorem d_RM_pointsOf_169 : decode prog_6_method_27_code 169 = .ok (.if_icmp .lt 8, 3) := by decide +kernel
theorem d_RM_pointsOf_172 : decode prog_6_method_27_code 172 = .ok (.bipush 15, 2) := by decide +kernel
theorem d_RM_pointsOf_174 : decode prog_6_method_27_code 174 = .ok (.goto 4, 3) := by decide +kernel
theorem d_RM_pointsOf_177 : decode prog_6_method_27_code 177 = .ok (.iconst 0, 1) := by decide +kernel
theorem d_RM_pointsOf_178 : decode prog_6_method_27_code 178 = .ok (.iadd, 1) := by decide +kernel
theorem d_RM_pointsOf_179 : decode prog_6_method_27_code 179 = .ok (.istore 9, 2) := by decide +kernel
theorem d_RM_pointsOf_181 : decode prog_6_method_27_code 181 = .ok (.iload 9, 2) := by decide +kernel
theorem d_RM_pointsOf_183 : decode prog_6_method_27_code 183 = .ok (.iconst 2, 1) := by decide +kernel
theorem d_RM_pointsOf_184 : decode prog_6_method_27_code 184 = .ok (.iload_n 3, 1) := by decide +kernel
theorem d_RM_pointsOf_185 : decode prog_6_method_27_code 185 = .ok (.imul, 1) := by decide +kernel
theorem d_RM_pointsOf_186 : decode prog_6_method_27_code 186 = .ok (.iload 5, 2) := by decide +kernel
theorem d_RM_pointsOf_188 : decode prog_6_method_27_code 188 = .ok (.iadd, 1) := by decide +kernel
theorem d_RM_pointsOf_189 : decode prog_6_method_27_code 189 = .ok (.aload_n 0, 1) := by decide +kernel
theorem d_RM_pointsOf_190 : decode prog_6_method_27_code 190 = .ok (.getfield 63, 3) := by decide +kernel
theorem d_RM_pointsOf_193 : decode prog_6_method_27_code 193 = .ok (.if_icmp .lt 8, 3) := by decide +kernel
theorem d_RM_pointsOf_196 : decode prog_6_method_27_code 196 = .ok (.bipush 15, 2) := by decide +kernel
theorem d_RM_pointsOf_198 : decode prog_6_method_27_code 198 = .ok (.goto 4, 3) := by decide +kernel
theorem d_RM_pointsOf_201 : decode prog_6_method_27_code 201 = .ok (.iconst 0, 1) := by decide +kernel
theorem d_RM_pointsOf_202 : decode prog_6_method_27_code 202 = .ok (.iadd, 1) := by decide +kernel
theorem d_RM_pointsOf_203 : decode prog_6_method_27_code 203 = .ok (.istore 9, 2) := by decide +kernel
theorem d_RM_pointsOf_205 : decode prog_6_method_27_code 205 = .ok (.iload 9, 2) := by decide +kernel
theorem d_RM_pointsOf_207 : decode prog_6_method_27_code 207 = .ok (.iconst 2, 1) := by decide +kernel
theorem d_RM_pointsOf_208 : decode prog_6_method_27_code 208 = .ok (.iload 4, 2) := by decide +kernel
theorem d_RM_pointsOf_210 : decode prog_6_method_27_code 210 = .ok (.imul, 1) := by decide +kernel
theorem d_RM_pointsOf_211 : decode prog_6_method_27_code 211 = .ok (.iload 5, 2) := by decide +kernel
theorem d_RM_pointsOf_213 : decode prog_6_method_27_code 213 = .ok (.imul, 1) := by decide +kernel
theorem d_RM_pointsOf_214 : decode prog_6_method_27_code 214 = .ok (.aload_n 0, 1) := by decide +kernel
theorem d_RM_pointsOf_215 : decode prog_6_method_27_code 215 = .ok (.getfield 59, 3) := by decide +kernel
theorem d_RM_pointsOf_218 : decode prog_6_method_27_code 218 = .ok (.aload_n 0, 1) := by decide +kernel
theorem d_RM_pointsOf_219 : decode prog_6_method_27_code 219 = .ok (.getfield 63, 3) := by decide +kernel
theorem d_RM_pointsOf_222 : decode prog_6_method_27_code 222 = .ok (.imul, 1) := by decide +kernel
theorem d_RM_pointsOf_223 : decode prog_6_method_27_code 223 = .ok (.if_icmp .gt 8, 3) := by decide +kernel
theorem d_RM_pointsOf_226 : decode prog_6_method_27_code 226 = .ok (.bipush 10, 2) := by decide +kernel
theorem d_RM_pointsOf_228 : decode prog_6_method_27_code 228 = .ok (.goto 4, 3) := by decide +kernel
theorem d_RM_pointsOf_231 : decode prog_6_method_27_code 231 = .ok (.iconst 0, 1) := by decide +kernel
theorem d_RM_pointsOf_232 : decode prog_6_method_27_code 232 = .ok (.iadd, 1) := by decide +kernel
theorem d_RM_pointsOf_233 : decode prog_6_method_27_code 233 = .ok (.istore 9, 2) := by decide +kernel
theorem d_RM_pointsOf_235 : decode prog_6_method_27_code 235 = .ok (.iload 9, 2) := by decide +kernel
theorem d_RM_pointsOf_237 : decode prog_6_method_27_code 237 = .ok (.aload_n 0, 1) := by decide +kernel
theorem d_RM_pointsOf_238 : decode prog_6_method_27_code 238 = .ok (.iload_n 1, 1) := by decide +kernel
theorem d_RM_pointsOf_239 : decode prog_6_method_27_code 239 = .ok (.invokevirtual 148, 3) := by decide +kernel
theorem d_RM_pointsOf_242 : decode prog_6_method_27_code 242 = .ok (.ifCond .eq 8, 3) := by decide +kernel
theorem d_RM_pointsOf_245 : decode prog_6_method_27_code 245 = .ok (.bipush 25, 2) := by decide +kernel
theorem d_RM_pointsOf_247 : decode prog_6_method_27_code 247 = .ok (.goto 4, 3) := by decide +kernel
theorem d_RM_pointsOf_250 : decode prog_6_method_27_code 250 = .ok (.iconst 0, 1) := by decide +kernel
theorem d_RM_pointsOf_251 : decode prog_6_method_27_code 251 = .ok (.iadd, 1) := by decide +kernel
theorem d_RM_pointsOf_252 : decode prog_6_method_27_code 252 = .ok (.ireturn, 1) := by decide +kernel
theorem d_RM_isFirst_0 : decode prog_6_method_28_code 0 = .ok (.aload_n 0, 1) := by decide +kernel
theorem d_RM_isFirst_1 : decode prog_6_method_28_code 1 = .ok (.getfield 34, 3) := by decide +kernel
theorem d_RM_isFirst_4 : decode prog_6_method_28_code 4 = .ok (.iload_n 1, 1) := by decide +kernel
theorem d_RM_isFirst_5 : decode prog_6_method_28_code 5 = .ok (.iaload, 1) := by decide +kernel
theorem d_RM_isFirst_6 : decode prog_6_method_28_code 6 = .ok (.aload_n 0, 1) := by decide +kernel
theorem d_RM_isFirst_7 : decode prog_6_method_28_code 7 = .ok (.getfield 34, 3) := by decide +kernel
theorem d_RM_isFirst_10 : decode prog_6_method_28_code 10 = .ok (.iload_n 2, 1) := by decide +kernel
theorem d_RM_isFirst_11 : decode prog_6_method_28_code 11 = .ok (.iaload, 1) := by decide +kernel
theorem d_RM_isFirst_12 : decode prog_6_method_28_code 12 = .ok (.if_icmp .eq 24, 3) := by decide +kernel
theorem d_RM_isFirst_15 : decode prog_6_method_28_code 15 = .ok (.aload_n 0, 1) := by decide +kernel
theorem d_RM_isFirst_16 : decode prog_6_method_28_code 16 = .ok (.getfield 34, 3) := by decide +kernel
theorem d_RM_isFirst_19 : decode prog_6_method_28_code 19 = .ok (.iload_n 1, 1) := by decide +kernel
theorem d_RM_isFirst_20 : decode prog_6_method_28_code 20 = .ok (.iaload, 1) := by decide +kernel
theorem d_RM_isFirst_21 : decode prog_6_method_28_code 21 = .ok (.aload_n 0, 1) := by decide +kernel
theorem d_RM_isFirst_22 : decode prog_6_method_28_code 22 = .ok (.getfield 34, 3) := by decide +kernel
theorem d_RM_isFirst_25 : decode prog_6_method_28_code 25 = .ok (.iload_n 2, 1) := by decide +kernel
theorem d_RM_isFirst_26 : decode prog_6_method_28_code 26 = .ok (.iaload, 1) := by decide +kernel
theorem d_RM_isFirst_27 : decode prog_6_method_28_code 27 = .ok (.if_icmp .le 7, 3) := by decide +kernel
theorem d_RM_isFirst_30 : decode prog_6_method_28_code 30 = .ok (.iconst 1, 1) := by decide +kernel
theorem d_RM_isFirst_31 : decode prog_6_method_28_code 31 = .ok (.goto 4, 3) := by decide +kernel
theorem d_RM_isFirst_34 : decode prog_6_method_28_code 34 = .ok (.iconst 0, 1) := by decide +kernel
theorem d_RM_isFirst_35 : decode prog_6_method_28_code 35 = .ok (.ireturn, 1) := by decide +kernel
theorem d_RM_isFirst_36 : decode prog_6_method_28_code 36 = .ok (.aload_n 0, 1) := by decide +kernel
theorem d_RM_isFirst_37 : decode prog_6_method_28_code 37 = .ok (.getfield 152, 3) := by decide +kernel
theorem d_RM_isFirst_40 : decode prog_6_method_28_code 40 = .ok (.ifCond .eq 7, 3) := by decide +kernel
theorem d_RM_isFirst_43 : decode prog_6_method_28_code 43 = .ok (.iconst 0, 1) := by decide +kernel
theorem d_RM_isFirst_44 : decode prog_6_method_28_code 44 = .ok (.goto 4, 3) := by decide +kernel
theorem d_RM_isFirst_47 : decode prog_6_method_28_code 47 = .ok (.iconst 1, 1) := by decide +kernel
theorem d_RM_isFirst_48 : decode prog_6_method_28_code 48 = .ok (.istore_n 3, 1) := by decide +kernel
theorem d_RM_isFirst_49 : decode prog_6_method_28_code 49 = .ok (.aload_n 0, 1) := by decide +kernel
theorem d_RM_isFirst_50 : decode prog_6_method_28_code 50 = .ok (.getfield 28, 3) := by decide +kernel
theorem d_RM_isFirst_53 : decode prog_6_method_28_code 53 = .ok (.iconst 4, 1) := by decide +kernel
theorem d_RM_isFirst_54 : decode prog_6_method_28_code 54 = .ok (.iload_n 1, 1) := by decide +kernel
theorem d_RM_isFirst_55 : decode prog_6_method_28_code 55 = .ok (.imul, 1) := by decide +kernel
theorem d_RM_isFirst_56 : decode prog_6_method_28_code 56 = .ok (.iload_n 3, 1) := by decide +kernel
theorem d_RM_isFirst_57 : decode prog_6_method_28_code 57 = .ok (.iadd, 1) := by decide +kernel
theorem d_RM_isFirst_58 : decode prog_6_method_28_code 58 = .ok (.iaload, 1) := by decide +kernel
theorem d_RM_isFirst_59 : decode prog_6_method_28_code 59 = .ok (.istore 4, 2) := by decide +kernel
theorem d_RM_isFirst_61 : decode prog_6_method_28_code 61 = .ok (.aload_n 0, 1) := by decide +kernel
theorem d_RM_isFirst_62 : decode prog_6_method_28_code 62 = .ok (.getfield 28, 3) := by decide +kernel
theorem d_RM_isFirst_65 : decode prog_6_method_28_code 65 = .ok (.iconst 4, 1) := by decide +kernel
theorem d_RM_isFirst_66 : decode prog_6_method_28_code 66 = .ok (.iload_n 2, 1) := by decide +kernel
theorem d_RM_isFirst_67 : decode prog_6_method_28_code 67 = .ok (.imul, 1) := by decide +kernel
theorem d_RM_isFirst_68 : decode prog_6_method_28_code 68 = .ok (.iload_n 3, 1) := by decide +kernel
theorem d_RM_isFirst_69 : decode prog_6_method_28_code 69 = .ok (.iadd, 1) := by decide +kernel
theorem d_RM_isFirst_70 : decode prog_6_method_28_code 70 = .ok (.iaload, 1) := by decide +kernel
theorem d_RM_isFirst_71 : decode prog_6_method_28_code 71 = .ok (.istore 5, 2) := by decide +kernel
theorem d_RM_isFirst_73 : decode prog_6_method_28_code 73 = .ok (.iload 4, 2) := by decide +kernel
theorem d_RM_isFirst_75 : decode prog_6_method_28_code 75 = .ok (.iload 5, 2) := by decide +kernel
theorem d_RM_isFirst_77 : decode prog_6_method_28_code 77 = .ok (.if_icmp .eq 16, 3) := by decide +kernel
theorem d_RM_isFirst_80 : decode prog_6_method_28_code 80 = .ok (.iload 4, 2) := by decide +kernel
theorem d_RM_isFirst_82 : decode prog_6_method_28_code 82 = .ok (.iload 5, 2) := by decide +kernel
theorem d_RM_isFirst_84 : decode prog_6_method_28_code 84 = .ok (.if_icmp .ge 7, 3) := by decide +kernel
theorem d_RM_isFirst_87 : decode prog_6_method_28_code 87 = .ok (.iconst 1, 1) := by decide +kernel
theorem d_RM_isFirst_88 : decode prog_6_method_28_code 88 = .ok (.goto 4, 3) := by decide +kernel
theorem d_RM_isFirst_91 : decode prog_6_method_28_code 91 = .ok (.iconst 0, 1) := by decide +kernel
theorem d_RM_isFirst_92 : decode prog_6_method_28_code 92 = .ok (.ireturn, 1) := by decide +kernel
theorem d_RM_isFirst_93 : decode prog_6_method_28_code 93 = .ok (.aload_n 0, 1) := by decide +kernel
theorem d_RM_isFirst_94 : decode prog_6_method_28_code 94 = .ok (.getfield 28, 3) := by decide +kernel
theorem d_RM_isFirst_97 : decode prog_6_method_28_code 97 = .ok (.iconst 4, 1) := by decide +kernel
theorem d_RM_isFirst_98 : decode prog_6_method_28_code 98 = .ok (.iload_n 1, 1) := by decide +kernel
theorem d_RM_isFirst_99 : decode prog_6_method_28_code 99 = .ok (.imul, 1) := by decide +kernel
theorem d_RM_isFirst_100 : decode prog_6_method_28_code 100 = .ok (.iconst 1, 1) := by decide +kernel
theorem d_RM_isFirst_101 : decode prog_6_method_28_code 101 = .ok (.iadd, 1) := by decide +kernel
theorem d_RM_isFirst_102 : decode prog_6_method_28_code 102 = .ok (.iload_n 3, 1) := by decide +kernel
theorem d_RM_isFirst_103 : decode prog_6_method_28_code 103 = .ok (.isub, 1) := by decide +kernel
theorem d_RM_isFirst_104 : decode prog_6_method_28_code 104 = .ok (.iaload, 1) := by decide +kernel
theorem d_RM_isFirst_105 : decode prog_6_method_28_code 105 = .ok (.istore 6, 2) := by decide +kernel
theorem d_RM_isFirst_107 : decode prog_6_method_28_code 107 = .ok (.aload_n 0, 1) := by decide +kernel
theorem d_RM_isFirst_108 : decode prog_6_method_28_code 108 = .ok (.getfield 28, 3) := by decide +kernel
theorem d_RM_isFirst_111 : decode prog_6_method_28_code 111 = .ok (.iconst 4, 1) := by decide +kernel
theorem d_RM_isFirst_112 : decode prog_6_method_28_code 112 = .ok (.iload_n 2, 1) := by decide +kernel
theorem d_RM_isFirst_113 : decode prog_6_method_28_code 113 = .ok (.imul, 1) := by decide +kernel
theorem d_RM_isFirst_114 : decode prog_6_method_28_code 114 = .ok (.iconst 1, 1) := by decide +kernel
theorem d_RM_isFirst_115 : decode prog_6_method_28_code 115 = .ok (.iadd, 1) := by decide +kernel
theorem d_RM_isFirst_116 : decode prog_6_method_28_code 116 = .ok (.iload_n 3, 1) := by decide +kernel
theorem d_RM_isFirst_117 : decode prog_6_method_28_code 117 = .ok (.isub, 1) := by decide +kernel
theorem d_RM_isFirst_118 : decode prog_6_method_28_code 118 = .ok (.iaload, 1) := by decide +kernel
theorem d_RM_isFirst_119 : decode prog_6_method_28_code 119 = .ok (.istore 7, 2) := by decide +kernel
theorem d_RM_isFirst_121 : decode prog_6_method_28_code 121 = .ok (.iload 6, 2) := by decide +kernel
theorem d_RM_isFirst_123 : decode prog_6_method_28_code 123 = .ok (.iload 7, 2) := by decide +kernel
theorem d_RM_isFirst_125 : decode prog_6_method_28_code 125 = .ok (.if_icmp .eq 18, 3) := by decide +kernel
theorem d_RM_isFirst_128 : decode prog_6_method_28_code 128 = .ok (.iload 6, 2) := by decide +kernel
theorem d_RM_isFirst_130 : decode prog_6_method_28_code 130 = .ok (.iload 7, 2) := by decide +kernel
theorem d_RM_isFirst_132 : decode prog_6_method_28_code 132 = .ok (.if_icmp .ge 7, 3) := by decide +kernel
theorem d_RM_isFirst_135 : decode prog_6_method_28_code 135 = .ok (.iconst 1, 1) := by decide +kernel
theorem d_RM_isFirst_136 : decode prog_6_method_28_code 136 = .ok (.goto 27, 3) := by decide +kernel
theorem d_RM_isFirst_139 : decode prog_6_method_28_code 139 = .ok (.iconst 0, 1) := by decide +kernel
theorem d_RM_isFirst_140 : decode prog_6_method_28_code 140 = .ok (.goto 23, 3) := by decide +kernel
theorem d_RM_isFirst_143 : decode prog_6_method_28_code 143 = .ok (.aload_n 0, 1) := by decide +kernel
theorem d_RM_isFirst_144 : decode prog_6_method_28_code 144 = .ok (.getfield 31, 3) := by decide +kernel
theorem d_RM_isFirst_147 : decode prog_6_method_28_code 147 = .ok (.iload_n 1, 1) := by decide +kernel
theorem d_RM_isFirst_148 : decode prog_6_method_28_code 148 = .ok (.iaload, 1) := by decide +kernel
theorem d_RM_isFirst_149 : decode prog_6_method_28_code 149 = .ok (.aload_n 0, 1) := by decide +kernel
theorem d_RM_isFirst_150 : decode prog_6_method_28_code 150 = .ok (.getfield 31, 3) := by decide +kernel
theorem d_RM_isFirst_153 : decode prog_6_method_28_code 153 = .ok (.iload_n 2, 1) := by decide +kernel
theorem d_RM_isFirst_154 : decode prog_6_method_28_code 154 = .ok (.iaload, 1) := by decide +kernel
theorem d_RM_isFirst_155 : decode prog_6_method_28_code 155 = .ok (.if_icmp .ge 7, 3) := by decide +kernel
theorem d_RM_isFirst_158 : decode prog_6_method_28_code 158 = .ok (.iconst 1, 1) := by decide +kernel
theorem d_RM_isFirst_159 : decode prog_6_method_28_code 159 = .ok (.goto 4, 3) := by decide +kernel
theorem d_RM_isFirst_162 : decode prog_6_method_28_code 162 = .ok (.iconst 0, 1) := by decide +kernel
theorem d_RM_isFirst_163 : decode prog_6_method_28_code 163 = .ok (.ireturn, 1) := by decide +kernel
theorem d_RM_rank_0 : decode prog_6_method_29_code 0 = .ok (.iconst 0, 1) := by decide +kernel
theorem d_RM_rank_1 : decode prog_6_method_29_code 1 = .ok (.istore_n 1, 1) := by decide +kernel
theorem d_RM_rank_2 : decode prog_6_method_29_code 2 = .ok (.iload_n 1, 1) := by decide +kernel
theorem d_RM_rank_3 : decode prog_6_method_29_code 3 = .ok (.aload_n 0, 1) := by decide +kernel
theorem d_RM_rank_4 : decode prog_6_method_29_code 4 = .ok (.getfield 129, 3) := by decide +kernel
theorem d_RM_rank_7 : decode prog_6_method_29_code 7 = .ok (.if_icmp .ge 58, 3) := by decide +kernel
theorem d_RM_rank_10 : decode prog_6_method_29_code 10 = .ok (.iload_n 1, 1) := by decide +kernel
theorem d_RM_rank_11 : decode prog_6_method_29_code 11 = .ok (.istore_n 2, 1) := by decide +kernel
theorem d_RM_rank_12 : decode prog_6_method_29_code 12 = .ok (.iload_n 2, 1) := by decide +kernel
theorem d_RM_rank_13 : decode prog_6_method_29_code 13 = .ok (.ifCond .le 39, 3) := by decide +kernel
theorem d_RM_rank_16 : decode prog_6_method_29_code 16 = .ok (.aload_n 0, 1) := by decide +kernel
theorem d_RM_rank_17 : decode prog_6_method_29_code 17 = .ok (.iload_n 1, 1) := by decide +kernel
theorem d_RM_rank_18 : decode prog_6_method_29_code 18 = .ok (.aload_n 0, 1) := by decide +kernel
theorem d_RM_rank_19 : decode prog_6_method_29_code 19 = .ok (.getfield 41, 3) := by decide +kernel
theorem d_RM_rank_22 : decode prog_6_method_29_code 22 = .ok (.iload_n 2, 1) := by decide +kernel
theorem d_RM_rank_23 : decode prog_6_method_29_code 23 = .ok (.iconst 1, 1) := by decide +kernel
theorem d_RM_rank_24 : decode prog_6_method_29_code 24 = .ok (.isub, 1) := by decide +kernel
theorem d_RM_rank_25 : decode prog_6_method_29_code 25 = .ok (.iaload, 1) := by decide +kernel
theorem d_RM_rank_26 : decode prog_6_method_29_code 26 = .ok (.invokevirtual 155, 3) := by decide +kernel
theorem d_RM_rank_29 : decode prog_6_method_29_code 29 = .ok (.ifCond .eq 23, 3) := by decide +kernel
theorem d_RM_rank_32 : decode prog_6_method_29_code 32 = .ok (.aload_n 0, 1) := by decide +kernel
theorem d_RM_rank_33 : decode prog_6_method_29_code 33 = .ok (.getfield 41, 3) := by decide +kernel
theorem d_RM_rank_36 : decode prog_6_method_29_code 36 = .ok (.iload_n 2, 1) := by decide +kernel
theorem d_RM_rank_37 : decode prog_6_method_29_code 37 = .ok (.aload_n 0, 1) := by decide +kernel
theorem d_RM_rank_38 : decode prog_6_method_29_code 38 = .ok (.getfield 41, 3) := by decide +kernel
theorem d_RM_rank_41 : decode prog_6_method_29_code 41 = .ok (.iload_n 2, 1) := by decide +kernel
theorem d_RM_rank_42 : decode prog_6_method_29_code 42 = .ok (.iconst 1, 1) := by decide +kernel
theorem d_RM_rank_43 : decode prog_6_method_29_code 43 = .ok (.isub, 1) := by decide +kernel
theorem d_RM_rank_44 : decode prog_6_method_29_code 44 = .ok (.iaload, 1) := by decide +kernel
theorem d_RM_rank_45 : decode prog_6_method_29_code 45 = .ok (.iastore, 1) := by decide +kernel
theorem d_RM_rank_46 : decode prog_6_method_29_code 46 = .ok (.iinc 2 (-1), 3) := by decide +kernel
theorem d_RM_rank_49 : decode prog_6_method_29_code 49 = .ok (.goto (-37), 3) := by decide +kernel
theorem d_RM_rank_52 : decode prog_6_method_29_code 52 = .ok (.aload_n 0, 1) := by decide +kernel
theorem d_RM_rank_53 : decode prog_6_method_29_code 53 = .ok (.getfield 41, 3) := by decide +kernel
theorem d_RM_rank_56 : decode prog_6_method_29_code 56 = .ok (.iload_n 2, 1) := by decide +kernel
theorem d_RM_rank_57 : decode prog_6_method_29_code 57 = .ok (.iload_n 1, 1) := by decide +kernel
theorem d_RM_rank_58 : decode prog_6_method_29_code 58 = .ok (.iastore, 1) := by decide +kernel
theorem d_RM_rank_59 : decode prog_6_method_29_code 59 = .ok (.iinc 1 1, 3) := by decide +kernel
theorem d_RM_rank_62 : decode prog_6_method_29_code 62 = .ok (.goto (-60), 3) := by decide +kernel
theorem d_RM_rank_65 : decode prog_6_method_29_code 65 = .ok (.return_, 1) := by decide +kernel
theorem d_RM_find_0 : decode prog_6_method_30_code 0 = .ok (.aload_n 0, 1) := by decide +kernel
theorem d_RM_find_1 : decode prog_6_method_30_code 1 = .ok (.iconst 0, 1) := by decide +kernel
theorem d_RM_find_2 : decode prog_6_method_30_code 2 = .ok (.putfield 66, 3) := by decide +kernel
theorem d_RM_find_5 : decode prog_6_method_30_code 5 = .ok (.aload_n 0, 1) := by decide +kernel
theorem d_RM_find_6 : decode prog_6_method_30_code 6 = .ok (.iconst 0, 1) := by decide +kernel
theorem d_RM_find_7 : decode prog_6_method_30_code 7 = .ok (.invokevirtual 158, 3) := by decide +kernel
theorem d_RM_find_10 : decode prog_6_method_30_code 10 = .ok (.istore_n 1, 1) := by decide +kernel
theorem d_RM_find_11 : decode prog_6_method_30_code 11 = .ok (.aload_n 0, 1) := by decide +kernel
theorem d_RM_find_12 : decode prog_6_method_30_code 12 = .ok (.aload_n 0, 1) := by decide +kernel
theorem d_RM_find_13 : decode prog_6_method_30_code 13 = .ok (.iconst 1, 1) := by decide +kernel
theorem d_RM_find_14 : decode prog_6_method_30_code 14 = .ok (.invokevirtual 158, 3) := by decide +kernel
theorem d_RM_find_17 : decode prog_6_method_30_code 17 = .ok (.iload_n 1, 1) := by decide +kernel
theorem d_RM_find_18 : decode prog_6_method_30_code 18 = .ok (.if_icmp .ge 7, 3) := by decide +kernel
theorem d_RM_find_21 : decode prog_6_method_30_code 21 = .ok (.iconst 1, 1) := by decide +kernel
theorem d_RM_find_22 : decode prog_6_method_30_code 22 = .ok (.goto 4, 3) := by decide +kernel
theorem d_RM_find_25 : decode prog_6_method_30_code 25 = .ok (.iconst 0, 1) := by decide +kernel
theorem d_RM_find_26 : decode prog_6_method_30_code 26 = .ok (.putfield 152, 3) := by decide +kernel
theorem d_RM_find_29 : decode prog_6_method_30_code 29 = .ok (.aload_n 0, 1) := by decide +kernel
theorem d_RM_find_30 : decode prog_6_method_30_code 30 = .ok (.aload_n 0, 1) := by decide +kernel
theorem d_RM_find_31 : decode prog_6_method_30_code 31 = .ok (.getfield 152, 3) := by decide +kernel
theorem d_RM_find_34 : decode prog_6_method_30_code 34 = .ok (.invokevirtual 158, 3) := by decide +kernel
theorem d_RM_find_37 : decode prog_6_method_30_code 37 = .ok (.pop, 1) := by decide +kernel
theorem d_RM_find_38 : decode prog_6_method_30_code 38 = .ok (.aload_n 0, 1) := by decide +kernel
theorem d_RM_find_39 : decode prog_6_method_30_code 39 = .ok (.invokevirtual 162, 3) := by decide +kernel
theorem d_RM_find_42 : decode prog_6_method_30_code 42 = .ok (.aload_n 0, 1) := by decide +kernel
theorem d_RM_find_43 : decode prog_6_method_30_code 43 = .ok (.invokevirtual 165, 3) := by decide +kernel
theorem d_RM_find_46 : decode prog_6_method_30_code 46 = .ok (.aload_n 0, 1) := by decide +kernel
theorem d_RM_find_47 : decode prog_6_method_30_code 47 = .ok (.invokevirtual 168, 3) := by decide +kernel
theorem d_RM_find_50 : decode prog_6_method_30_code 50 = .ok (.aload_n 0, 1) := by decide +kernel
theorem d_RM_find_51 : decode prog_6_method_30_code 51 = .ok (.iconst 1, 1) := by decide +kernel
theorem d_RM_find_52 : decode prog_6_method_30_code 52 = .ok (.putfield 171, 3) := by decide +kernel
theorem d_RM_find_55 : decode prog_6_method_30_code 55 = .ok (.aload_n 0, 1) := by decide +kernel
theorem d_RM_find_56 : decode prog_6_method_30_code 56 = .ok (.invokevirtual 174, 3) := by decide +kernel
theorem d_RM_find_59 : decode prog_6_method_30_code 59 = .ok (.aload_n 0, 1) := by decide +kernel
theorem d_RM_find_60 : decode prog_6_method_30_code 60 = .ok (.invokevirtual 177, 3) := by decide +kernel
theorem d_RM_find_63 : decode prog_6_method_30_code 63 = .ok (.aload_n 0, 1) := by decide +kernel
theorem d_RM_find_64 : decode prog_6_method_30_code 64 = .ok (.getfield 129, 3) := by decide +kernel
theorem d_RM_find_67 : decode prog_6_method_30_code 67 = .ok (.ireturn, 1) := by decide +kernel
theorem d_RM_isBlock_0 : decode prog_6_method_31_code 0 = .ok (.aload_n 0, 1) := by decide +kernel
theorem d_RM_isBlock_1 : decode prog_6_method_31_code 1 = .ok (.getfield 171, 3) := by decide +kernel
theorem d_RM_isBlock_4 : decode prog_6_method_31_code 4 = .ok (.ifCond .eq 19, 3) := by decide +kernel
theorem d_RM_isBlock_7 : decode prog_6_method_31_code 7 = .ok (.iload_n 1, 1) := by decide +kernel
theorem d_RM_isBlock_8 : decode prog_6_method_31_code 8 = .ok (.ifCond .lt 15, 3) := by decide +kernel
theorem d_RM_isBlock_11 : decode prog_6_method_31_code 11 = .ok (.iload_n 1, 1) := by decide +kernel
theorem d_RM_isBlock_12 : decode prog_6_method_31_code 12 = .ok (.aload_n 0, 1) := by decide +kernel
theorem d_RM_isBlock_13 : decode prog_6_method_31_code 13 = .ok (.getfield 129, 3) := by decide +kernel
theorem d_RM_isBlock_16 : decode prog_6_method_31_code 16 = .ok (.if_icmp .ge 7, 3) := by decide +kernel
theorem d_RM_isBlock_19 : decode prog_6_method_31_code 19 = .ok (.iconst 1, 1) := by decide +kernel
theorem d_RM_isBlock_20 : decode prog_6_method_31_code 20 = .ok (.goto 4, 3) := by decide +kernel
theorem d_RM_isBlock_23 : decode prog_6_method_31_code 23 = .ok (.iconst 0, 1) := by decide +kernel
theorem d_RM_isBlock_24 : decode prog_6_method_31_code 24 = .ok (.ireturn, 1) := by decide +kernel
theorem d_RM_block_0 : decode prog_6_method_32_code 0 = .ok (.aload_n 0, 1) := by decide +kernel
theorem d_RM_block_1 : decode prog_6_method_32_code 1 = .ok (.iconst 0, 1) := by decide +kernel
theorem d_RM_block_2 : decode prog_6_method_32_code 2 = .ok (.putfield 66, 3) := by decide +kernel
theorem d_RM_block_5 : decode prog_6_method_32_code 5 = .ok (.aload_n 0, 1) := by decide +kernel
theorem d_RM_block_6 : decode prog_6_method_32_code 6 = .ok (.iload_n 1, 1) := by decide +kernel
theorem d_RM_block_7 : decode prog_6_method_32_code 7 = .ok (.invokevirtual 180, 3) := by decide +kernel
theorem d_RM_block_10 : decode prog_6_method_32_code 10 = .ok (.ifCond .ne 6, 3) := by decide +kernel
theorem d_RM_block_13 : decode prog_6_method_32_code 13 = .ok (.bipush (-11), 2) := by decide +kernel
theorem d_RM_block_15 : decode prog_6_method_32_code 15 = .ok (.ireturn, 1) := by decide +kernel
theorem d_RM_block_16 : decode prog_6_method_32_code 16 = .ok (.iload_n 2, 1) := by decide +kernel
theorem d_RM_block_17 : decode prog_6_method_32_code 17 = .ok (.ifCond .lt 8, 3) := by decide +kernel
theorem d_RM_block_20 : decode prog_6_method_32_code 20 = .ok (.iload_n 2, 1) := by decide +kernel
theorem d_RM_block_21 : decode prog_6_method_32_code 21 = .ok (.iconst 5, 1) := by decide +kernel
theorem d_RM_block_22 : decode prog_6_method_32_code 22 = .ok (.if_icmp .le 6, 3) := by decide +kernel
theorem d_RM_block_25 : decode prog_6_method_32_code 25 = .ok (.bipush (-12), 2) := by decide +kernel
theorem d_RM_block_27 : decode prog_6_method_32_code 27 = .ok (.ireturn, 1) := by decide +kernel
theorem d_RM_block_28 : decode prog_6_method_32_code 28 = .ok (.aload_n 0, 1) := by decide +kernel
theorem d_RM_block_29 : decode prog_6_method_32_code 29 = .ok (.getfield 41, 3) := by decide +kernel
theorem d_RM_block_32 : decode prog_6_method_32_code 32 = .ok (.iload_n 1, 1) := by decide +kernel
theorem d_RM_block_33 : decode prog_6_method_32_code 33 = .ok (.iaload, 1) := by decide +kernel
theorem d_RM_block_34 : decode prog_6_method_32_code 34 = .ok (.istore_n 3, 1) := by decide +kernel
theorem d_RM_block_35 : decode prog_6_method_32_code 35 = .ok (.iload_n 2, 1) := by decide +kernel
theorem d_RM_block_36 : decode prog_6_method_32_code 36 = .ok (.iconst 4, 1) := by decide +kernel
theorem d_RM_block_37 : decode prog_6_method_32_code 37 = .ok (.if_icmp .ge 14, 3) := by decide +kernel
theorem d_RM_block_40 : decode prog_6_method_32_code 40 = .ok (.aload_n 0, 1) := by decide +kernel
theorem d_RM_block_41 : decode prog_6_method_32_code 41 = .ok (.getfield 28, 3) := by decide +kernel
theorem d_RM_block_44 : decode prog_6_method_32_code 44 = .ok (.iconst 4, 1) := by decide +kernel
theorem d_RM_block_45 : decode prog_6_method_32_code 45 = .ok (.iload_n 3, 1) := by decide +kernel
theorem d_RM_block_46 : decode prog_6_method_32_code 46 = .ok (.imul, 1) := by decide +kernel
theorem d_RM_block_47 : decode prog_6_method_32_code 47 = .ok (.iload_n 2, 1) := by decide +kernel
theorem d_RM_block_48 : decode prog_6_method_32_code 48 = .ok (.iadd, 1) := by decide +kernel
theorem d_RM_block_49 : decode prog_6_method_32_code 49 = .ok (.iaload, 1) := by decide +kernel
theorem d_RM_block_50 : decode prog_6_method_32_code 50 = .ok (.ireturn, 1) := by decide +kernel
theorem d_RM_block_51 : decode prog_6_method_32_code 51 = .ok (.iconst 0, 1) := by decide +kernel
theorem d_RM_block_52 : decode prog_6_method_32_code 52 = .ok (.istore 4, 2) := by decide +kernel
theorem d_RM_block_54 : decode prog_6_method_32_code 54 = .ok (.iconst 0, 1) := by decide +kernel
theorem d_RM_block_55 : decode prog_6_method_32_code 55 = .ok (.istore 5, 2) := by decide +kernel
theorem d_RM_block_57 : decode prog_6_method_32_code 57 = .ok (.iload 5, 2) := by decide +kernel
theorem d_RM_block_59 : decode prog_6_method_32_code 59 = .ok (.aload_n 0, 1) := by decide +kernel
theorem d_RM_block_60 : decode prog_6_method_32_code 60 = .ok (.getfield 126, 3) := by decide +kernel
theorem d_RM_block_63 : decode prog_6_method_32_code 63 = .ok (.if_icmp .ge 41, 3) := by decide +kernel
theorem d_RM_block_66 : decode prog_6_method_32_code 66 = .ok (.iload_n 2, 1) := by decide +kernel
theorem d_RM_block_67 : decode prog_6_method_32_code 67 = .ok (.iconst 5, 1) := by decide +kernel
theorem d_RM_block_68 : decode prog_6_method_32_code 68 = .ok (.if_icmp .ne 36, 3) := by decide +kernel
theorem d_RM_block_71 : decode prog_6_method_32_code 71 = .ok (.iload 4, 2) := by decide +kernel
theorem d_RM_block_73 : decode prog_6_method_32_code 73 = .ok (.aload_n 0, 1) := by decide +kernel
theorem d_RM_block_74 : decode prog_6_method_32_code 74 = .ok (.getfield 53, 3) := by decide +kernel
theorem d_RM_block_77 : decode prog_6_method_32_code 77 = .ok (.iload 5, 2) := by decide +kernel
theorem d_RM_block_79 : decode prog_6_method_32_code 79 = .ok (.iaload, 1) := by decide +kernel
theorem d_RM_block_80 : decode prog_6_method_32_code 80 = .ok (.iload_n 3, 1) := by decide +kernel
theorem d_RM_block_81 : decode prog_6_method_32_code 81 = .ok (.if_icmp .ne 13, 3) := by decide +kernel
theorem d_RM_block_84 : decode prog_6_method_32_code 84 = .ok (.aload_n 0, 1) := by decide +kernel
theorem d_RM_block_85 : decode prog_6_method_32_code 85 = .ok (.getfield 50, 3) := by decide +kernel
theorem d_RM_block_88 : decode prog_6_method_32_code 88 = .ok (.iload 5, 2) := by decide +kernel
theorem d_RM_block_90 : decode prog_6_method_32_code 90 = .ok (.iaload, 1) := by decide +kernel
theorem d_RM_block_91 : decode prog_6_method_32_code 91 = .ok (.goto 4, 3) := by decide +kernel
theorem d_RM_block_94 : decode prog_6_method_32_code 94 = .ok (.iconst 0, 1) := by decide +kernel
theorem d_RM_block_95 : decode prog_6_method_32_code 95 = .ok (.iadd, 1) := by decide +kernel
theorem d_RM_block_96 : decode prog_6_method_32_code 96 = .ok (.istore 4, 2) := by decide +kernel
theorem d_RM_block_98 : decode prog_6_method_32_code 98 = .ok (.iinc 5 1, 3) := by decide +kernel
theorem d_RM_block_101 : decode prog_6_method_32_code 101 = .ok (.goto (-44), 3) := by decide +kernel
theorem d_RM_block_104 : decode prog_6_method_32_code 104 = .ok (.iload_n 2, 1) := by decide +kernel
theorem d_RM_block_105 : decode prog_6_method_32_code 105 = .ok (.iconst 4, 1) := by decide +kernel
theorem d_RM_block_106 : decode prog_6_method_32_code 106 = .ok (.if_icmp .ne 11, 3) := by decide +kernel
theorem d_RM_block_109 : decode prog_6_method_32_code 109 = .ok (.aload_n 0, 1) := by decide +kernel
theorem d_RM_block_110 : decode prog_6_method_32_code 110 = .ok (.iload_n 3, 1) := by decide +kernel
theorem d_RM_block_111 : decode prog_6_method_32_code 111 = .ok (.invokevirtual 183, 3) := by decide +kernel
theorem d_RM_block_114 : decode prog_6_method_32_code 114 = .ok (.goto 5, 3) := by decide +kernel
theorem d_RM_block_117 : decode prog_6_method_32_code 117 = .ok (.iload 4, 2) := by decide +kernel
theorem d_RM_block_119 : decode prog_6_method_32_code 119 = .ok (.ireturn, 1) := by decide +kernel
theorem d_RM_line_0 : decode prog_6_method_33_code 0 = .ok (.aload_n 0, 1) := by decide +kernel
theorem d_RM_line_1 : decode prog_6_method_33_code 1 = .ok (.iconst 0, 1) := by decide +kernel
theorem d_RM_line_2 : decode prog_6_method_33_code 2 = .ok (.putfield 66, 3) := by decide +kernel
theorem d_RM_line_5 : decode prog_6_method_33_code 5 = .ok (.aload_n 0, 1) := by decide +kernel
theorem d_RM_line_6 : decode prog_6_method_33_code 6 = .ok (.iload_n 1, 1) := by decide +kernel
theorem d_RM_line_7 : decode prog_6_method_33_code 7 = .ok (.invokevirtual 180, 3) := by decide +kernel
theorem d_RM_line_10 : decode prog_6_method_33_code 10 = .ok (.ifCond .ne 6, 3) := by decide +kernel
theorem d_RM_line_13 : decode prog_6_method_33_code 13 = .ok (.bipush (-11), 2) := by decide +kernel
theorem d_RM_line_15 : decode prog_6_method_33_code 15 = .ok (.ireturn, 1) := by decide +kernel
theorem d_RM_line_16 : decode prog_6_method_33_code 16 = .ok (.iload_n 3, 1) := by decide +kernel
theorem d_RM_line_17 : decode prog_6_method_33_code 17 = .ok (.ifCond .lt 8, 3) := by decide +kernel
theorem d_RM_line_20 : decode prog_6_method_33_code 20 = .ok (.iload_n 3, 1) := by decide +kernel
theorem d_RM_line_21 : decode prog_6_method_33_code 21 = .ok (.iconst 5, 1) := by decide +kernel
theorem d_RM_line_22 : decode prog_6_method_33_code 22 = .ok (.if_icmp .le 6, 3) := by decide +kernel
theorem d_RM_line_25 : decode prog_6_method_33_code 25 = .ok (.bipush (-12), 2) := by decide +kernel
theorem d_RM_line_27 : decode prog_6_method_33_code 27 = .ok (.ireturn, 1) := by decide +kernel
theorem d_RM_line_28 : decode prog_6_method_33_code 28 = .ok (.iload_n 2, 1) := by decide +kernel
theorem d_RM_line_29 : decode prog_6_method_33_code 29 = .ok (.istore 4, 2) := by decide +kernel
theorem d_RM_line_31 : decode prog_6_method_33_code 31 = .ok (.iconst 0, 1) := by decide +kernel
theorem d_RM_line_32 : decode prog_6_method_33_code 32 = .ok (.istore 5, 2) := by decide +kernel
theorem d_RM_line_34 : decode prog_6_method_33_code 34 = .ok (.iload 5, 2) := by decide +kernel
theorem d_RM_line_36 : decode prog_6_method_33_code 36 = .ok (.aload_n 0, 1) := by decide +kernel
theorem d_RM_line_37 : decode prog_6_method_33_code 37 = .ok (.getfield 126, 3) := by decide +kernel
theorem d_RM_line_40 : decode prog_6_method_33_code 40 = .ok (.if_icmp .ge 79, 3) := by decide +kernel
theorem d_RM_line_43 : decode prog_6_method_33_code 43 = .ok (.iload_n 2, 1) := by decide +kernel
theorem d_RM_line_44 : decode prog_6_method_33_code 44 = .ok (.ifCond .lt 75, 3) := by decide +kernel
theorem d_RM_line_47 : decode prog_6_method_33_code 47 = .ok (.aload_n 0, 1) := by decide +kernel
theorem d_RM_line_48 : decode prog_6_method_33_code 48 = .ok (.getfield 53, 3) := by decide +kernel
theorem d_RM_line_51 : decode prog_6_method_33_code 51 = .ok (.iload 5, 2) := by decide +kernel
theorem d_RM_line_53 : decode prog_6_method_33_code 53 = .ok (.iaload, 1) := by decide +kernel
theorem d_RM_line_54 : decode prog_6_method_33_code 54 = .ok (.aload_n 0, 1) := by decide +kernel
theorem d_RM_line_55 : decode prog_6_method_33_code 55 = .ok (.getfield 41, 3) := by decide +kernel
theorem d_RM_line_58 : decode prog_6_method_33_code 58 = .ok (.iload_n 1, 1) := by decide +kernel
theorem d_RM_line_59 : decode prog_6_method_33_code 59 = .ok (.iaload, 1) := by decide +kernel
theorem d_RM_line_60 : decode prog_6_method_33_code 60 = .ok (.if_icmp .ne 53, 3) := by decide +kernel
theorem d_RM_line_63 : decode prog_6_method_33_code 63 = .ok (.iload 4, 2) := by decide +kernel
theorem d_RM_line_65 : decode prog_6_method_33_code 65 = .ok (.ifCond .ne 45, 3) := by decide +kernel
theorem d_RM_line_68 : decode prog_6_method_33_code 68 = .ok (.iload_n 3, 1) := by decide +kernel
theorem d_RM_line_69 : decode prog_6_method_33_code 69 = .ok (.iconst 4, 1) := by decide +kernel
theorem d_RM_line_70 : decode prog_6_method_33_code 70 = .ok (.if_icmp .ge 17, 3) := by decide +kernel
theorem d_RM_line_73 : decode prog_6_method_33_code 73 = .ok (.aload_n 0, 1) := by decide +kernel
theorem d_RM_line_74 : decode prog_6_method_33_code 74 = .ok (.getfield 44, 3) := by decide +kernel
theorem d_RM_line_77 : decode prog_6_method_33_code 77 = .ok (.iconst 4, 1) := by decide +kernel
theorem d_RM_line_78 : decode prog_6_method_33_code 78 = .ok (.iload 5, 2) := by decide +kernel
theorem d_RM_line_80 : decode prog_6_method_33_code 80 = .ok (.imul, 1) := by decide +kernel
theorem d_RM_line_81 : decode prog_6_method_33_code 81 = .ok (.iload_n 3, 1) := by decide +kernel
theorem d_RM_line_82 : decode prog_6_method_33_code 82 = .ok (.iadd, 1) := by decide +kernel
theorem d_RM_line_83 : decode prog_6_method_33_code 83 = .ok (.iaload, 1) := by decide +kernel
theorem d_RM_line_84 : decode prog_6_method_33_code 84 = .ok (.goto 25, 3) := by decide +kernel
theorem d_RM_line_87 : decode prog_6_method_33_code 87 = .ok (.iload_n 3, 1) := by decide +kernel
theorem d_RM_line_88 : decode prog_6_method_33_code 88 = .ok (.iconst 4, 1) := by decide +kernel
theorem d_RM_line_89 : decode prog_6_method_33_code 89 = .ok (.if_icmp .ne 13, 3) := by decide +kernel
theorem d_RM_line_92 : decode prog_6_method_33_code 92 = .ok (.aload_n 0, 1) := by decide +kernel
theorem d_RM_line_93 : decode prog_6_method_33_code 93 = .ok (.getfield 50, 3) := by decide +kernel
theorem d_RM_line_96 : decode prog_6_method_33_code 96 = .ok (.iload 5, 2) := by decide +kernel
theorem d_RM_line_98 : decode prog_6_method_33_code 98 = .ok (.iaload, 1) := by decide +kernel
theorem d_RM_line_99 : decode prog_6_method_33_code 99 = .ok (.goto 10, 3) := by decide +kernel
theorem d_RM_line_102 : decode prog_6_method_33_code 102 = .ok (.aload_n 0, 1) := by decide +kernel
theorem d_RM_line_103 : decode prog_6_method_33_code 103 = .ok (.getfield 47, 3) := by decide +kernel
theorem d_RM_line_106 : decode prog_6_method_33_code 106 = .ok (.iload 5, 2) := by decide +kernel
theorem d_RM_line_108 : decode prog_6_method_33_code 108 = .ok (.iaload, 1) := by decide +kernel
theorem d_RM_line_109 : decode prog_6_method_33_code 109 = .ok (.ireturn, 1) := by decide +kernel
theorem d_RM_line_110 : decode prog_6_method_33_code 110 = .ok (.iinc 4 (-1), 3) := by decide +kernel
theorem d_RM_line_113 : decode prog_6_method_33_code 113 = .ok (.iinc 5 1, 3) := by decide +kernel
theorem d_RM_line_116 : decode prog_6_method_33_code 116 = .ok (.goto (-82), 3) := by decide +kernel
theorem d_RM_line_119 : decode prog_6_method_33_code 119 = .ok (.iconst (-1), 1) := by decide +kernel
theorem d_RM_line_120 : decode prog_6_method_33_code 120 = .ok (.ireturn, 1) := by decide +kernel
theorem d_RM_points_0 : decode prog_6_method_34_code 0 = .ok (.aload_n 0, 1) := by decide +kernel
theorem d_RM_points_1 : decode prog_6_method_34_code 1 = .ok (.iconst 0, 1) := by decide +kernel
theorem d_RM_points_2 : decode prog_6_method_34_code 2 = .ok (.putfield 66, 3) := by decide +kernel
theorem d_RM_points_5 : decode prog_6_method_34_code 5 = .ok (.aload_n 0, 1) := by decide +kernel
theorem d_RM_points_6 : decode prog_6_method_34_code 6 = .ok (.iload_n 1, 1) := by decide +kernel
theorem d_RM_points_7 : decode prog_6_method_34_code 7 = .ok (.invokevirtual 180, 3) := by decide +kernel
theorem d_RM_points_10 : decode prog_6_method_34_code 10 = .ok (.ifCond .eq 17, 3) := by decide +kernel
theorem d_RM_points_13 : decode prog_6_method_34_code 13 = .ok (.aload_n 0, 1) := by decide +kernel
theorem d_RM_points_14 : decode prog_6_method_34_code 14 = .ok (.getfield 34, 3) := by decide +kernel
theorem d_RM_points_17 : decode prog_6_method_34_code 17 = .ok (.aload_n 0, 1) := by decide +kernel
theorem d_RM_points_18 : decode prog_6_method_34_code 18 = .ok (.getfield 41, 3) := by decide +kernel
theorem d_RM_points_21 : decode prog_6_method_34_code 21 = .ok (.iload_n 1, 1) := by decide +kernel
theorem d_RM_points_22 : decode prog_6_method_34_code 22 = .ok (.iaload, 1) := by decide +kernel
theorem d_RM_points_23 : decode prog_6_method_34_code 23 = .ok (.iaload, 1) := by decide +kernel
theorem d_RM_points_24 : decode prog_6_method_34_code 24 = .ok (.goto 5, 3) := by decide +kernel
theorem d_RM_points_27 : decode prog_6_method_34_code 27 = .ok (.bipush (-11), 2) := by decide +kernel
theorem d_RM_points_29 : decode prog_6_method_34_code 29 = .ok (.ireturn, 1) := by decide +kernel
theorem d_RM_printed_0 : decode prog_6_method_35_code 0 = .ok (.aload_n 0, 1) := by decide +kernel
theorem d_RM_printed_1 : decode prog_6_method_35_code 1 = .ok (.iconst 0, 1) := by decide +kernel
theorem d_RM_printed_2 : decode prog_6_method_35_code 2 = .ok (.putfield 66, 3) := by decide +kernel
theorem d_RM_printed_5 : decode prog_6_method_35_code 5 = .ok (.aload_n 0, 1) := by decide +kernel
theorem d_RM_printed_6 : decode prog_6_method_35_code 6 = .ok (.iload_n 1, 1) := by decide +kernel
theorem d_RM_printed_7 : decode prog_6_method_35_code 7 = .ok (.invokevirtual 180, 3) := by decide +kernel
theorem d_RM_printed_10 : decode prog_6_method_35_code 10 = .ok (.ifCond .eq 21, 3) := by decide +kernel
theorem d_RM_printed_13 : decode prog_6_method_35_code 13 = .ok (.aload_n 0, 1) := by decide +kernel
theorem d_RM_printed_14 : decode prog_6_method_35_code 14 = .ok (.getfield 37, 3) := by decide +kernel
theorem d_RM_printed_17 : decode prog_6_method_35_code 17 = .ok (.aload_n 0, 1) := by decide +kernel
theorem d_RM_printed_18 : decode prog_6_method_35_code 18 = .ok (.getfield 41, 3) := by decide +kernel
theorem d_RM_printed_21 : decode prog_6_method_35_code 21 = .ok (.iload_n 1, 1) := by decide +kernel
theorem d_RM_printed_22 : decode prog_6_method_35_code 22 = .ok (.iaload, 1) := by decide +kernel
theorem d_RM_printed_23 : decode prog_6_method_35_code 23 = .ok (.baload, 1) := by decide +kernel
theorem d_RM_printed_24 : decode prog_6_method_35_code 24 = .ok (.ifCond .eq 7, 3) := by decide +kernel
theorem d_RM_printed_27 : decode prog_6_method_35_code 27 = .ok (.iconst 1, 1) := by decide +kernel
theorem d_RM_printed_28 : decode prog_6_method_35_code 28 = .ok (.goto 4, 3) := by decide +kernel
theorem d_RM_printed_31 : decode prog_6_method_35_code 31 = .ok (.iconst 0, 1) := by decide +kernel
theorem d_RM_printed_32 : decode prog_6_method_35_code 32 = .ok (.ireturn, 1) := by decide +kernel
theorem d_RM_turned_0 : decode prog_6_method_36_code 0 = .ok (.aload_n 0, 1) := by decide +kernel
theorem d_RM_turned_1 : decode prog_6_method_36_code 1 = .ok (.iconst 0, 1) := by decide +kernel
theorem d_RM_turned_2 : decode prog_6_method_36_code 2 = .ok (.putfield 66, 3) := by decide +kernel
theorem d_RM_turned_5 : decode prog_6_method_36_code 5 = .ok (.aload_n 0, 1) := by decide +kernel
theorem d_RM_turned_6 : decode prog_6_method_36_code 6 = .ok (.getfield 152, 3) := by decide +kernel
theorem d_RM_turned_9 : decode prog_6_method_36_code 9 = .ok (.ireturn, 1) := by decide +kernel
theorem d_RM_blockOf_0 : decode prog_6_method_37_code 0 = .ok (.aload_n 0, 1) := by decide +kernel
theorem d_RM_blockOf_1 : decode prog_6_method_37_code 1 = .ok (.iconst 0, 1) := by decide +kernel
theorem d_RM_blockOf_2 : decode prog_6_method_37_code 2 = .ok (.putfield 66, 3) := by decide +kernel
theorem d_RM_blockOf_5 : decode prog_6_method_37_code 5 = .ok (.iload_n 1, 1) := by decide +kernel
theorem d_RM_blockOf_6 : decode prog_6_method_37_code 6 = .ok (.ifCond .lt 11, 3) := by decide +kernel
theorem d_RM_blockOf_9 : decode prog_6_method_37_code 9 = .ok (.iload_n 1, 1) := by decide +kernel
theorem d_RM_blockOf_10 : decode prog_6_method_37_code 10 = .ok (.aload_n 0, 1) := by decide +kernel
theorem d_RM_blockOf_11 : decode prog_6_method_37_code 11 = .ok (.getfield 73, 3) := by decide +kernel
theorem d_RM_blockOf_14 : decode prog_6_method_37_code 14 = .ok (.if_icmp .lt 6, 3) := by decide +kernel
theorem d_RM_blockOf_17 : decode prog_6_method_37_code 17 = .ok (.bipush (-11), 2) := by decide +kernel
theorem d_RM_blockOf_19 : decode prog_6_method_37_code 19 = .ok (.ireturn, 1) := by decide +kernel
theorem d_RM_blockOf_20 : decode prog_6_method_37_code 20 = .ok (.iload_n 1, 1) := by decide +kernel
theorem d_RM_blockOf_21 : decode prog_6_method_37_code 21 = .ok (.aload_n 0, 1) := by decide +kernel
theorem d_RM_blockOf_22 : decode prog_6_method_37_code 22 = .ok (.getfield 136, 3) := by decide +kernel
theorem d_RM_blockOf_25 : decode prog_6_method_37_code 25 = .ok (.if_icmp .lt 5, 3) := by decide +kernel
theorem d_RM_blockOf_28 : decode prog_6_method_37_code 28 = .ok (.iconst (-1), 1) := by decide +kernel
theorem d_RM_blockOf_29 : decode prog_6_method_37_code 29 = .ok (.ireturn, 1) := by decide +kernel
theorem d_RM_blockOf_30 : decode prog_6_method_37_code 30 = .ok (.iconst 0, 1) := by decide +kernel
theorem d_RM_blockOf_31 : decode prog_6_method_37_code 31 = .ok (.istore_n 2, 1) := by decide +kernel
theorem d_RM_blockOf_32 : decode prog_6_method_37_code 32 = .ok (.aload_n 0, 1) := by decide +kernel
theorem d_RM_blockOf_33 : decode prog_6_method_37_code 33 = .ok (.getfield 41, 3) := by decide +kernel
theorem d_RM_blockOf_36 : decode prog_6_method_37_code 36 = .ok (.iload_n 2, 1) := by decide +kernel
theorem d_RM_blockOf_37 : decode prog_6_method_37_code 37 = .ok (.iaload, 1) := by decide +kernel
theorem d_RM_blockOf_38 : decode prog_6_method_37_code 38 = .ok (.aload_n 0, 1) := by decide +kernel
theorem d_RM_blockOf_39 : decode prog_6_method_37_code 39 = .ok (.getfield 56, 3) := by decide +kernel
theorem d_RM_blockOf_42 : decode prog_6_method_37_code 42 = .ok (.iload_n 1, 1) := by decide +kernel
theorem d_RM_blockOf_43 : decode prog_6_method_37_code 43 = .ok (.iaload, 1) := by decide +kernel
theorem d_RM_blockOf_44 : decode prog_6_method_37_code 44 = .ok (.if_icmp .eq 9, 3) := by decide +kernel
theorem d_RM_blockOf_47 : decode prog_6_method_37_code 47 = .ok (.iinc 2 1, 3) := by decide +kernel
theorem d_RM_blockOf_50 : decode prog_6_method_37_code 50 = .ok (.goto (-18), 3) := by decide +kernel
theorem d_RM_blockOf_53 : decode prog_6_method_37_code 53 = .ok (.iload_n 2, 1) := by decide +kernel
theorem d_RM_blockOf_54 : decode prog_6_method_37_code 54 = .ok (.ireturn, 1) := by decide +kernel
theorem d_RM_candidates_0 : decode prog_6_method_38_code 0 = .ok (.aload_n 0, 1) := by decide +kernel
theorem d_RM_candidates_1 : decode prog_6_method_38_code 1 = .ok (.iconst 0, 1) := by decide +kernel
theorem d_RM_candidates_2 : decode prog_6_method_38_code 2 = .ok (.putfield 66, 3) := by decide +kernel
theorem d_RM_candidates_5 : decode prog_6_method_38_code 5 = .ok (.iconst 0, 1) := by decide +kernel
theorem d_RM_candidates_6 : decode prog_6_method_38_code 6 = .ok (.istore_n 1, 1) := by decide +kernel
theorem d_RM_candidates_7 : decode prog_6_method_38_code 7 = .ok (.iconst 0, 1) := by decide +kernel
theorem d_RM_candidates_8 : decode prog_6_method_38_code 8 = .ok (.istore_n 2, 1) := by decide +kernel
theorem d_RM_candidates_9 : decode prog_6_method_38_code 9 = .ok (.iload_n 2, 1) := by decide +kernel
theorem d_RM_candidates_10 : decode prog_6_method_38_code 10 = .ok (.aload_n 0, 1) := by decide +kernel
theorem d_RM_candidates_11 : decode prog_6_method_38_code 11 = .ok (.getfield 129, 3) := by decide +kernel
theorem d_RM_candidates_14 : decode prog_6_method_38_code 14 = .ok (.if_icmp .ge 26, 3) := by decide +kernel
theorem d_RM_candidates_17 : decode prog_6_method_38_code 17 = .ok (.iload_n 1, 1) := by decide +kernel
theorem d_RM_candidates_18 : decode prog_6_method_38_code 18 = .ok (.aload_n 0, 1) := by decide +kernel
theorem d_RM_candidates_19 : decode prog_6_method_38_code 19 = .ok (.getfield 34, 3) := by decide +kernel
theorem d_RM_candidates_22 : decode prog_6_method_38_code 22 = .ok (.iload_n 2, 1) := by decide +kernel
theorem d_RM_candidates_23 : decode prog_6_method_38_code 23 = .ok (.iaload, 1) := by decide +kernel
theorem d_RM_candidates_24 : decode prog_6_method_38_code 24 = .ok (.ifCond .le 7, 3) := by decide +kernel
theorem d_RM_candidates_27 : decode prog_6_method_38_code 27 = .ok (.iconst 1, 1) := by decide +kernel
theorem d_RM_candidates_28 : decode prog_6_method_38_code 28 = .ok (.goto 4, 3) := by decide +kernel
theorem d_RM_candidates_31 : decode prog_6_method_38_code 31 = .ok (.iconst 0, 1) := by decide +kernel
theorem d_RM_candidates_32 : decode prog_6_method_38_code 32 = .ok (.iadd, 1) := by decide +kernel
theorem d_RM_candidates_33 : decode prog_6_method_38_code 33 = .ok (.istore_n 1, 1) := by decide +kernel
theorem d_RM_candidates_34 : decode prog_6_method_38_code 34 = .ok (.iinc 2 1, 3) := by decide +kernel
theorem d_RM_candidates_37 : decode prog_6_method_38_code 37 = .ok (.goto (-28), 3) := by decide +kernel
theorem d_RM_candidates_40 : decode prog_6_method_38_code 40 = .ok (.iload_n 1, 1) := by decide +kernel
theorem d_RM_candidates_41 : decode prog_6_method_38_code 41 = .ok (.ireturn, 1) := by decide +kernel
theorem d_RM_clear_0 : decode prog_6_method_39_code 0 = .ok (.aload_n 0, 1) := by decide +kernel
theorem d_RM_clear_1 : decode prog_6_method_39_code 1 = .ok (.iconst 0, 1) := by decide +kernel
theorem d_RM_clear_2 : decode prog_6_method_39_code 2 = .ok (.putfield 66, 3) := by decide +kernel
theorem d_RM_clear_5 : decode prog_6_method_39_code 5 = .ok (.aload_n 0, 1) := by decide +kernel
theorem d_RM_clear_6 : decode prog_6_method_39_code 6 = .ok (.getfield 73, 3) := by decide +kernel
theorem d_RM_clear_9 : decode prog_6_method_39_code 9 = .ok (.istore_n 1, 1) := by decide +kernel
theorem d_RM_clear_10 : decode prog_6_method_39_code 10 = .ok (.aload_n 0, 1) := by decide +kernel
theorem d_RM_clear_11 : decode prog_6_method_39_code 11 = .ok (.iconst 0, 1) := by decide +kernel
theorem d_RM_clear_12 : decode prog_6_method_39_code 12 = .ok (.putfield 73, 3) := by decide +kernel
theorem d_RM_clear_15 : decode prog_6_method_39_code 15 = .ok (.aload_n 0, 1) := by decide +kernel
theorem d_RM_clear_16 : decode prog_6_method_39_code 16 = .ok (.iconst 0, 1) := by decide +kernel
theorem d_RM_clear_17 : decode prog_6_method_39_code 17 = .ok (.putfield 136, 3) := by decide +kernel
theorem d_RM_clear_20 : decode prog_6_method_39_code 20 = .ok (.iload_n 1, 1) := by decide +kernel
theorem d_RM_clear_21 : decode prog_6_method_39_code 21 = .ok (.ireturn, 1) := by decide +kernel
theorem d_LW_cell_0 : decode method_2_code 0 = .ok (.iload_n 1, 1) := by decide +kernel
theorem d_LW_cell_1 : decode method_2_code 1 = .ok (.aload_n 0, 1) := by decide +kernel
theorem d_LW_cell_2 : decode method_2_code 2 = .ok (.arraylength, 1) := by decide +kernel
theorem d_LW_cell_3 : decode method_2_code 3 = .ok (.if_icmp .ge 9, 3) := by decide +kernel
theorem d_LW_cell_6 : decode method_2_code 6 = .ok (.aload_n 0, 1) := by decide +kernel
theorem d_LW_cell_7 : decode method_2_code 7 = .ok (.iload_n 1, 1) := by decide +kernel
theorem d_LW_cell_8 : decode method_2_code 8 = .ok (.iaload, 1) := by decide +kernel
theorem d_LW_cell_9 : decode method_2_code 9 = .ok (.goto 4, 3) := by decide +kernel
theorem d_LW_cell_12 : decode method_2_code 12 = .ok (.iconst 0, 1) := by decide +kernel
theorem d_LW_cell_13 : decode method_2_code 13 = .ok (.ireturn, 1) := by decide +kernel
theorem d_LW_law_0 : decode code 0 = .ok (.new 7, 3) := by decide +kernel
theorem d_LW_law_3 : decode code 3 = .ok (.dup, 1) := by decide +kernel
theorem d_LW_law_4 : decode code 4 = .ok (.aload_n 0, 1) := by decide +kernel
theorem d_LW_law_5 : decode code 5 = .ok (.iconst 0, 1) := by decide +kernel
theorem d_LW_law_6 : decode code 6 = .ok (.invokestatic 9, 3) := by decide +kernel
theorem d_LW_law_9 : decode code 9 = .ok (.aload_n 0, 1) := by decide +kernel
theorem d_LW_law_10 : decode code 10 = .ok (.iconst 1, 1) := by decide +kernel
theorem d_LW_law_11 : decode code 11 = .ok (.invokestatic 9, 3) := by decide +kernel
theorem d_LW_law_14 : decode code 14 = .ok (.invokespecial 15, 3) := by decide +kernel
theorem d_LW_law_17 : decode code 17 = .ok (.astore_n 1, 1) := by decide +kernel
theorem d_LW_law_18 : decode code 18 = .ok (.new 18, 3) := by decide +kernel
theorem d_LW_law_21 : decode code 21 = .ok (.dup, 1) := by decide +kernel
theorem d_LW_law_22 : decode code 22 = .ok (.aload_n 0, 1) := by decide +kernel
theorem d_LW_law_23 : decode code 23 = .ok (.iconst 0, 1) := by decide +kernel
theorem d_LW_law_24 : decode code 24 = .ok (.invokestatic 9, 3) := by decide +kernel
theorem d_LW_law_27 : decode code 27 = .ok (.aload_n 0, 1) := by decide +kernel
theorem d_LW_law_28 : decode code 28 = .ok (.iconst 1, 1) := by decide +kernel
theorem d_LW_law_29 : decode code 29 = .ok (.invokestatic 9, 3) := by decide +kernel
theorem d_LW_law_32 : decode code 32 = .ok (.invokespecial 20, 3) := by decide +kernel
theorem d_LW_law_35 : decode code 35 = .ok (.astore_n 2, 1) := by decide +kernel
theorem d_LW_law_36 : decode code 36 = .ok (.iconst 2, 1) := by decide +kernel
theorem d_LW_law_37 : decode code 37 = .ok (.istore_n 3, 1) := by decide +kernel
theorem d_LW_law_38 : decode code 38 = .ok (.iload_n 3, 1) := by decide +kernel
theorem d_LW_law_39 : decode code 39 = .ok (.aload_n 0, 1) := by decide +kernel
theorem d_LW_law_40 : decode code 40 = .ok (.arraylength, 1) := by decide +kernel
theorem d_LW_law_41 : decode code 41 = .ok (.iconst 5, 1) := by decide +kernel
theorem d_LW_law_42 : decode code 42 = .ok (.isub, 1) := by decide +kernel
theorem d_LW_law_43 : decode code 43 = .ok (.if_icmp .gt 378, 3) := by decide +kernel
theorem d_LW_law_46 : decode code 46 = .ok (.aload_n 0, 1) := by decide +kernel
theorem d_LW_law_47 : decode code 47 = .ok (.iload_n 3, 1) := by decide +kernel
theorem d_LW_law_48 : decode code 48 = .ok (.iaload, 1) := by decide +kernel
theorem d_LW_law_49 : decode code 49 = .ok (.bipush 15, 2) := by decide +kernel
theorem d_LW_law_51 : decode code 51 = .ok (.iand, 1) := by decide +kernel
theorem d_LW_law_52 : decode code 52 = .ok (.tableswitch 363 0 10 #[60, 113, 166, 179, 212, 255, 278, 301, 314, 337, 350], 60) := by decide +kernel
theorem d_LW_law_112 : decode code 112 = .ok (.aload_n 1, 1) := by decide +kernel
theorem d_LW_law_113 : decode code 113 = .ok (.aload_n 0, 1) := by decide +kernel
theorem d_LW_law_114 : decode code 114 = .ok (.iload_n 3, 1) := by decide +kernel
theorem d_LW_law_115 : decode code 115 = .ok (.iconst 1, 1) := by decide +kernel
theorem d_LW_law_116 : decode code 116 = .ok (.iadd, 1) := by decide +kernel
theorem d_LW_law_117 : decode code 117 = .ok (.iaload, 1) := by decide +kernel
theorem d_LW_law_118 : decode code 118 = .ok (.aload_n 0, 1) := by decide +kernel
theorem d_LW_law_119 : decode code 119 = .ok (.iload_n 3, 1) := by decide +kernel
theorem d_LW_law_120 : decode code 120 = .ok (.iconst 2, 1) := by decide +kernel
theorem d_LW_law_121 : decode code 121 = .ok (.iadd, 1) := by decide +kernel
theorem d_LW_law_122 : decode code 122 = .ok (.iaload, 1) := by decide +kernel
theorem d_LW_law_123 : decode code 123 = .ok (.aload_n 0, 1) := by decide +kernel
theorem d_LW_law_124 : decode code 124 = .ok (.iload_n 3, 1) := by decide +kernel
theorem d_LW_law_125 : decode code 125 = .ok (.iconst 3, 1) := by decide +kernel
theorem d_LW_law_126 : decode code 126 = .ok (.iadd, 1) := by decide +kernel
theorem d_LW_law_127 : decode code 127 = .ok (.iaload, 1) := by decide +kernel
theorem d_LW_law_128 : decode code 128 = .ok (.aload_n 0, 1) := by decide +kernel
theorem d_LW_law_129 : decode code 129 = .ok (.iload_n 3, 1) := by decide +kernel
theorem d_LW_law_130 : decode code 130 = .ok (.iconst 4, 1) := by decide +kernel
theorem d_LW_law_131 : decode code 131 = .ok (.iadd, 1) := by decide +kernel
theorem d_LW_law_132 : decode code 132 = .ok (.iaload, 1) := by decide +kernel
theorem d_LW_law_133 : decode code 133 = .ok (.invokevirtual 21, 3) := by decide +kernel
theorem d_LW_law_136 : decode code 136 = .ok (.aload_n 2, 1) := by decide +kernel
theorem d_LW_law_137 : decode code 137 = .ok (.aload_n 0, 1) := by decide +kernel
theorem d_LW_law_138 : decode code 138 = .ok (.iload_n 3, 1) := by decide +kernel
theorem d_LW_law_139 : decode code 139 = .ok (.iconst 1, 1) := by decide +kernel
theorem d_LW_law_140 : decode code 140 = .ok (.iadd, 1) := by decide +kernel
theorem d_LW_law_141 : decode code 141 = .ok (.iaload, 1) := by decide +kernel
theorem d_LW_law_142 : decode code 142 = .ok (.aload_n 0, 1) := by decide +kernel
theorem d_LW_law_143 : decode code 143 = .ok (.iload_n 3, 1) := by decide +kernel
theorem d_LW_law_144 : decode code 144 = .ok (.iconst 2, 1) := by decide +kernel
theorem d_LW_law_145 : decode code 145 = .ok (.iadd, 1) := by decide +kernel
theorem d_LW_law_146 : decode code 146 = .ok (.iaload, 1) := by decide +kernel
theorem d_LW_law_147 : decode code 147 = .ok (.aload_n 0, 1) := by decide +kernel
theorem d_LW_law_148 : decode code 148 = .ok (.iload_n 3, 1) := by decide +kernel
theorem d_LW_law_149 : decode code 149 = .ok (.iconst 3, 1) := by decide +kernel
theorem d_LW_law_150 : decode code 150 = .ok (.iadd, 1) := by decide +kernel
theorem d_LW_law_151 : decode code 151 = .ok (.iaload, 1) := by decide +kernel
theorem d_LW_law_152 : decode code 152 = .ok (.aload_n 0, 1) := by decide +kernel
theorem d_LW_law_153 : decode code 153 = .ok (.iload_n 3, 1) := by decide +kernel
theorem d_LW_law_154 : decode code 154 = .ok (.iconst 4, 1) := by decide +kernel
theorem d_LW_law_155 : decode code 155 = .ok (.iadd, 1) := by decide +kernel
theorem d_LW_law_156 : decode code 156 = .ok (.iaload, 1) := by decide +kernel
theorem d_LW_law_157 : decode code 157 = .ok (.invokevirtual 25, 3) := by decide +kernel
theorem d_LW_law_160 : decode code 160 = .ok (.if_icmp .eq 255, 3) := by decide +kernel
theorem d_LW_law_163 : decode code 163 = .ok (.iconst 0, 1) := by decide +kernel
theorem d_LW_law_164 : decode code 164 = .ok (.ireturn, 1) := by decide +kernel
theorem d_LW_law_165 : decode code 165 = .ok (.aload_n 1, 1) := by decide +kernel
theorem d_LW_law_166 : decode code 166 = .ok (.aload_n 0, 1) := by decide +kernel
theorem d_LW_law_167 : decode code 167 = .ok (.iload_n 3, 1) := by decide +kernel
theorem d_LW_law_168 : decode code 168 = .ok (.iconst 1, 1) := by decide +kernel
theorem d_LW_law_169 : decode code 169 = .ok (.iadd, 1) := by decide +kernel
theorem d_LW_law_170 : decode code 170 = .ok (.iaload, 1) := by decide +kernel
theorem d_LW_law_171 : decode code 171 = .ok (.aload_n 0, 1) := by decide +kernel
theorem d_LW_law_172 : decode code 172 = .ok (.iload_n 3, 1) := by decide +kernel
theorem d_LW_law_173 : decode code 173 = .ok (.iconst 2, 1) := by decide +kernel
theorem d_LW_law_174 : decode code 174 = .ok (.iadd, 1) := by decide +kernel
theorem d_LW_law_175 : decode code 175 = .ok (.iaload, 1) := by decide +kernel
theorem d_LW_law_176 : decode code 176 = .ok (.aload_n 0, 1) := by decide +kernel
theorem d_LW_law_177 : decode code 177 = .ok (.iload_n 3, 1) := by decide +kernel
theorem d_LW_law_178 : decode code 178 = .ok (.iconst 3, 1) := by decide +kernel
theorem d_LW_law_179 : decode code 179 = .ok (.iadd, 1) := by decide +kernel
theorem d_LW_law_180 : decode code 180 = .ok (.iaload, 1) := by decide +kernel
theorem d_LW_law_181 : decode code 181 = .ok (.aload_n 0, 1) := by decide +kernel
theorem d_LW_law_182 : decode code 182 = .ok (.iload_n 3, 1) := by decide +kernel
theorem d_LW_law_183 : decode code 183 = .ok (.iconst 4, 1) := by decide +kernel
theorem d_LW_law_184 : decode code 184 = .ok (.iadd, 1) := by decide +kernel
theorem d_LW_law_185 : decode code 185 = .ok (.iaload, 1) := by decide +kernel
theorem d_LW_law_186 : decode code 186 = .ok (.invokevirtual 26, 3) := by decide +kernel
theorem d_LW_law_189 : decode code 189 = .ok (.aload_n 2, 1) := by decide +kernel
theorem d_LW_law_190 : decode code 190 = .ok (.aload_n 0, 1) := by decide +kernel
theorem d_LW_law_191 : decode code 191 = .ok (.iload_n 3, 1) := by decide +kernel
theorem d_LW_law_192 : decode code 192 = .ok (.iconst 1, 1) := by decide +kernel
theorem d_LW_law_193 : decode code 193 = .ok (.iadd, 1) := by decide +kernel
theorem d_LW_law_194 : decode code 194 = .ok (.iaload, 1) := by decide +kernel
theorem d_LW_law_195 : decode code 195 = .ok (.aload_n 0, 1) := by decide +kernel
theorem d_LW_law_196 : decode code 196 = .ok (.iload_n 3, 1) := by decide +kernel
theorem d_LW_law_197 : decode code 197 = .ok (.iconst 2, 1) := by decide +kernel
theorem d_LW_law_198 : decode code 198 = .ok (.iadd, 1) := by decide +kernel
theorem d_LW_law_199 : decode code 199 = .ok (.iaload, 1) := by decide +kernel
theorem d_LW_law_200 : decode code 200 = .ok (.aload_n 0, 1) := by decide +kernel
theorem d_LW_law_201 : decode code 201 = .ok (.iload_n 3, 1) := by decide +kernel
theorem d_LW_law_202 : decode code 202 = .ok (.iconst 3, 1) := by decide +kernel
theorem d_LW_law_203 : decode code 203 = .ok (.iadd, 1) := by decide +kernel
theorem d_LW_law_204 : decode code 204 = .ok (.iaload, 1) := by decide +kernel
theorem d_LW_law_205 : decode code 205 = .ok (.aload_n 0, 1) := by decide +kernel
theorem d_LW_law_206 : decode code 206 = .ok (.iload_n 3, 1) := by decide +kernel
theorem d_LW_law_207 : decode code 207 = .ok (.iconst 4, 1) := by decide +kernel
theorem d_LW_law_208 : decode code 208 = .ok (.iadd, 1) := by decide +kernel
theorem d_LW_law_209 : decode code 209 = .ok (.iaload, 1) := by decide +kernel
theorem d_LW_law_210 : decode code 210 = .ok (.invokevirtual 29, 3) := by decide +kernel
theorem d_LW_law_213 : decode code 213 = .ok (.if_icmp .eq 202, 3) := by decide +kernel
theorem d_LW_law_216 : decode code 216 = .ok (.iconst 0, 1) := by decide +kernel
theorem d_LW_law_217 : decode code 217 = .ok (.ireturn, 1) := by decide +kernel
theorem d_LW_law_218 : decode code 218 = .ok (.aload_n 1, 1) := by decide +kernel
theorem d_LW_law_219 : decode code 219 = .ok (.invokevirtual 30, 3) := by decide +kernel
theorem d_LW_law_222 : decode code 222 = .ok (.aload_n 2, 1) := by decide +kernel
theorem d_LW_law_223 : decode code 223 = .ok (.invokevirtual 34, 3) := by decide +kernel
theorem d_LW_law_226 : decode code 226 = .ok (.if_icmp .eq 189, 3) := by decide +kernel
theorem d_LW_law_229 : decode code 229 = .ok (.iconst 0, 1) := by decide +kernel
theorem d_LW_law_230 : decode code 230 = .ok (.ireturn, 1) := by decide +kernel
theorem d_LW_law_231 : decode code 231 = .ok (.aload_n 1, 1) := by decide +kernel
theorem d_LW_law_232 : decode code 232 = .ok (.aload_n 0, 1) := by decide +kernel
theorem d_LW_law_233 : decode code 233 = .ok (.iload_n 3, 1) := by decide +kernel
theorem d_LW_law_234 : decode code 234 = .ok (.iconst 1, 1) := by decide +kernel
theorem d_LW_law_235 : decode code 235 = .ok (.iadd, 1) := by decide +kernel
theorem d_LW_law_236 : decode code 236 = .ok (.iaload, 1) := by decide +kernel
theorem d_LW_law_237 : decode code 237 = .ok (.aload_n 0, 1) := by decide +kernel
theorem d_LW_law_238 : decode code 238 = .ok (.iload_n 3, 1) := by decide +kernel
theorem d_LW_law_239 : decode code 239 = .ok (.iconst 2, 1) := by decide +kernel
theorem d_LW_law_240 : decode code 240 = .ok (.iadd, 1) := by decide +kernel
theorem d_LW_law_241 : decode code 241 = .ok (.iaload, 1) := by decide +kernel
theorem d_LW_law_242 : decode code 242 = .ok (.invokevirtual 35, 3) := by decide +kernel
theorem d_LW_law_245 : decode code 245 = .ok (.aload_n 2, 1) := by decide +kernel
theorem d_LW_law_246 : decode code 246 = .ok (.aload_n 0, 1) := by decide +kernel
theorem d_LW_law_247 : decode code 247 = .ok (.iload_n 3, 1) := by decide +kernel
theorem d_LW_law_248 : decode code 248 = .ok (.iconst 1, 1) := by decide +kernel
theorem d_LW_law_249 : decode code 249 = .ok (.iadd, 1) := by decide +kernel
theorem d_LW_law_250 : decode code 250 = .ok (.iaload, 1) := by decide +kernel
theorem d_LW_law_251 : decode code 251 = .ok (.aload_n 0, 1) := by decide +kernel
theorem d_LW_law_252 : decode code 252 = .ok (.iload_n 3, 1) := by decide +kernel
theorem d_LW_law_253 : decode code 253 = .ok (.iconst 2, 1) := by decide +kernel
theorem d_LW_law_254 : decode code 254 = .ok (.iadd, 1) := by decide +kernel
theorem d_LW_law_255 : decode code 255 = .ok (.iaload, 1) := by decide +kernel
theorem d_LW_law_256 : decode code 256 = .ok (.invokevirtual 39, 3) := by decide +kernel
theorem d_LW_law_259 : decode code 259 = .ok (.if_icmp .eq 156, 3) := by decide +kernel
theorem d_LW_law_262 : decode code 262 = .ok (.iconst 0, 1) := by decide +kernel
theorem d_LW_law_263 : decode code 263 = .ok (.ireturn, 1) := by decide +kernel
theorem d_LW_law_264 : decode code 264 = .ok (.aload_n 1, 1) := by decide +kernel
theorem d_LW_law_265 : decode code 265 = .ok (.aload_n 0, 1) := by decide +kernel
theorem d_LW_law_266 : decode code 266 = .ok (.iload_n 3, 1) := by decide +kernel
theorem d_LW_law_267 : decode code 267 = .ok (.iconst 1, 1) := by decide +kernel
theorem d_LW_law_268 : decode code 268 = .ok (.iadd, 1) := by decide +kernel
theorem d_LW_law_269 : decode code 269 = .ok (.iaload, 1) := by decide +kernel
theorem d_LW_law_270 : decode code 270 = .ok (.aload_n 0, 1) := by decide +kernel
theorem d_LW_law_271 : decode code 271 = .ok (.iload_n 3, 1) := by decide +kernel
theorem d_LW_law_272 : decode code 272 = .ok (.iconst 2, 1) := by decide +kernel
theorem d_LW_law_273 : decode code 273 = .ok (.iadd, 1) := by decide +kernel
theorem d_LW_law_274 : decode code 274 = .ok (.iaload, 1) := by decide +kernel
theorem d_LW_law_275 : decode code 275 = .ok (.aload_n 0, 1) := by decide +kernel
theorem d_LW_law_276 : decode code 276 = .ok (.iload_n 3, 1) := by decide +kernel
theorem d_LW_law_277 : decode code 277 = .ok (.iconst 3, 1) := by decide +kernel
theorem d_LW_law_278 : decode code 278 = .ok (.iadd, 1) := by decide +kernel
theorem d_LW_law_279 : decode code 279 = .ok (.iaload, 1) := by decide +kernel
theorem d_LW_law_280 : decode code 280 = .ok (.invokevirtual 40, 3) := by decide +kernel
theorem d_LW_law_283 : decode code 283 = .ok (.aload_n 2, 1) := by decide +kernel
theorem d_LW_law_284 : decode code 284 = .ok (.aload_n 0, 1) := by decide +kernel
theorem d_LW_law_285 : decode code 285 = .ok (.iload_n 3, 1) := by decide +kernel
theorem d_LW_law_286 : decode code 286 = .ok (.iconst 1, 1) := by decide +kernel
theorem d_LW_law_287 : decode code 287 = .ok (.iadd, 1) := by decide +kernel
theorem d_LW_law_288 : decode code 288 = .ok (.iaload, 1) := by decide +kernel
theorem d_LW_law_289 : decode code 289 = .ok (.aload_n 0, 1) := by decide +kernel
theorem d_LW_law_290 : decode code 290 = .ok (.iload_n 3, 1) := by decide +kernel
theorem d_LW_law_291 : decode code 291 = .ok (.iconst 2, 1) := by decide +kernel
theorem d_LW_law_292 : decode code 292 = .ok (.iadd, 1) := by decide +kernel
theorem d_LW_law_293 : decode code 293 = .ok (.iaload, 1) := by decide +kernel
theorem d_LW_law_294 : decode code 294 = .ok (.aload_n 0, 1) := by decide +kernel
theorem d_LW_law_295 : decode code 295 = .ok (.iload_n 3, 1) := by decide +kernel
theorem d_LW_law_296 : decode code 296 = .ok (.iconst 3, 1) := by decide +kernel
theorem d_LW_law_297 : decode code 297 = .ok (.iadd, 1) := by decide +kernel
theorem d_LW_law_298 : decode code 298 = .ok (.iaload, 1) := by decide +kernel
theorem d_LW_law_299 : decode code 299 = .ok (.invokevirtual 44, 3) := by decide +kernel
theorem d_LW_law_302 : decode code 302 = .ok (.if_icmp .eq 113, 3) := by decide +kernel
theorem d_LW_law_305 : decode code 305 = .ok (.iconst 0, 1) := by decide +kernel
theorem d_LW_law_306 : decode code 306 = .ok (.ireturn, 1) := by decide +kernel
theorem d_LW_law_307 : decode code 307 = .ok (.aload_n 1, 1) := by decide +kernel
theorem d_LW_law_308 : decode code 308 = .ok (.aload_n 0, 1) := by decide +kernel
theorem d_LW_law_309 : decode code 309 = .ok (.iload_n 3, 1) := by decide +kernel
theorem d_LW_law_310 : decode code 310 = .ok (.iconst 1, 1) := by decide +kernel
theorem d_LW_law_311 : decode code 311 = .ok (.iadd, 1) := by decide +kernel
theorem d_LW_law_312 : decode code 312 = .ok (.iaload, 1) := by decide +kernel
theorem d_LW_law_313 : decode code 313 = .ok (.invokevirtual 45, 3) := by decide +kernel
theorem d_LW_law_316 : decode code 316 = .ok (.aload_n 2, 1) := by decide +kernel
theorem d_LW_law_317 : decode code 317 = .ok (.aload_n 0, 1) := by decide +kernel
theorem d_LW_law_318 : decode code 318 = .ok (.iload_n 3, 1) := by decide +kernel
theorem d_LW_law_319 : decode code 319 = .ok (.iconst 1, 1) := by decide +kernel
theorem d_LW_law_320 : decode code 320 = .ok (.iadd, 1) := by decide +kernel
theorem d_LW_law_321 : decode code 321 = .ok (.iaload, 1) := by decide +kernel
theorem d_LW_law_322 : decode code 322 = .ok (.invokevirtual 49, 3) := by decide +kernel
theorem d_LW_law_325 : decode code 325 = .ok (.if_icmp .eq 90, 3) := by decide +kernel
theorem d_LW_law_328 : decode code 328 = .ok (.iconst 0, 1) := by decide +kernel
theorem d_LW_law_329 : decode code 329 = .ok (.ireturn, 1) := by decide +kernel
theorem d_LW_law_330 : decode code 330 = .ok (.aload_n 1, 1) := by decide +kernel
theorem d_LW_law_331 : decode code 331 = .ok (.aload_n 0, 1) := by decide +kernel
theorem d_LW_law_332 : decode code 332 = .ok (.iload_n 3, 1) := by decide +kernel
theorem d_LW_law_333 : decode code 333 = .ok (.iconst 1, 1) := by decide +kernel
theorem d_LW_law_334 : decode code 334 = .ok (.iadd, 1) := by decide +kernel
theorem d_LW_law_335 : decode code 335 = .ok (.iaload, 1) := by decide +kernel
theorem d_LW_law_336 : decode code 336 = .ok (.invokevirtual 50, 3) := by decide +kernel
theorem d_LW_law_339 : decode code 339 = .ok (.aload_n 2, 1) := by decide +kernel
theorem d_LW_law_340 : decode code 340 = .ok (.aload_n 0, 1) := by decide +kernel
theorem d_LW_law_341 : decode code 341 = .ok (.iload_n 3, 1) := by decide +kernel
theorem d_LW_law_342 : decode code 342 = .ok (.iconst 1, 1) := by decide +kernel
theorem d_LW_law_343 : decode code 343 = .ok (.iadd, 1) := by decide +kernel
theorem d_LW_law_344 : decode code 344 = .ok (.iaload, 1) := by decide +kernel
theorem d_LW_law_345 : decode code 345 = .ok (.invokevirtual 54, 3) := by decide +kernel
theorem d_LW_law_348 : decode code 348 = .ok (.if_icmp .eq 67, 3) := by decide +kernel
theorem d_LW_law_351 : decode code 351 = .ok (.iconst 0, 1) := by decide +kernel
theorem d_LW_law_352 : decode code 352 = .ok (.ireturn, 1) := by decide +kernel
theorem d_LW_law_353 : decode code 353 = .ok (.aload_n 1, 1) := by decide +kernel
theorem d_LW_law_354 : decode code 354 = .ok (.invokevirtual 55, 3) := by decide +kernel
theorem d_LW_law_357 : decode code 357 = .ok (.aload_n 2, 1) := by decide +kernel
theorem d_LW_law_358 : decode code 358 = .ok (.invokevirtual 59, 3) := by decide +kernel
theorem d_LW_law_361 : decode code 361 = .ok (.if_icmp .eq 54, 3) := by decide +kernel
theorem d_LW_law_364 : decode code 364 = .ok (.iconst 0, 1) := by decide +kernel
theorem d_LW_law_365 : decode code 365 = .ok (.ireturn, 1) := by decide +kernel
theorem d_LW_law_366 : decode code 366 = .ok (.aload_n 1, 1) := by decide +kernel
theorem d_LW_law_367 : decode code 367 = .ok (.aload_n 0, 1) := by decide +kernel
theorem d_LW_law_368 : decode code 368 = .ok (.iload_n 3, 1) := by decide +kernel
theorem d_LW_law_369 : decode code 369 = .ok (.iconst 1, 1) := by decide +kernel
theorem d_LW_law_370 : decode code 370 = .ok (.iadd, 1) := by decide +kernel
theorem d_LW_law_371 : decode code 371 = .ok (.iaload, 1) := by decide +kernel
theorem d_LW_law_372 : decode code 372 = .ok (.invokevirtual 60, 3) := by decide +kernel
theorem d_LW_law_375 : decode code 375 = .ok (.aload_n 2, 1) := by decide +kernel
theorem d_LW_law_376 : decode code 376 = .ok (.aload_n 0, 1) := by decide +kernel
theorem d_LW_law_377 : decode code 377 = .ok (.iload_n 3, 1) := by decide +kernel
theorem d_LW_law_378 : decode code 378 = .ok (.iconst 1, 1) := by decide +kernel
theorem d_LW_law_379 : decode code 379 = .ok (.iadd, 1) := by decide +kernel
theorem d_LW_law_380 : decode code 380 = .ok (.iaload, 1) := by decide +kernel
theorem d_LW_law_381 : decode code 381 = .ok (.invokevirtual 63, 3) := by decide +kernel
theorem d_LW_law_384 : decode code 384 = .ok (.if_icmp .eq 31, 3) := by decide +kernel
theorem d_LW_law_387 : decode code 387 = .ok (.iconst 0, 1) := by decide +kernel
theorem d_LW_law_388 : decode code 388 = .ok (.ireturn, 1) := by decide +kernel
theorem d_LW_law_389 : decode code 389 = .ok (.aload_n 1, 1) := by decide +kernel
theorem d_LW_law_390 : decode code 390 = .ok (.invokevirtual 64, 3) := by decide +kernel
theorem d_LW_law_393 : decode code 393 = .ok (.aload_n 2, 1) := by decide +kernel
theorem d_LW_law_394 : decode code 394 = .ok (.invokevirtual 67, 3) := by decide +kernel
theorem d_LW_law_397 : decode code 397 = .ok (.if_icmp .eq 18, 3) := by decide +kernel
theorem d_LW_law_400 : decode code 400 = .ok (.iconst 0, 1) := by decide +kernel
theorem d_LW_law_401 : decode code 401 = .ok (.ireturn, 1) := by decide +kernel
theorem d_LW_law_402 : decode code 402 = .ok (.aload_n 1, 1) := by decide +kernel
theorem d_LW_law_403 : decode code 403 = .ok (.invokevirtual 68, 3) := by decide +kernel
theorem d_LW_law_406 : decode code 406 = .ok (.aload_n 2, 1) := by decide +kernel
theorem d_LW_law_407 : decode code 407 = .ok (.invokevirtual 71, 3) := by decide +kernel
theorem d_LW_law_410 : decode code 410 = .ok (.if_icmp .eq 5, 3) := by decide +kernel
theorem d_LW_law_413 : decode code 413 = .ok (.iconst 0, 1) := by decide +kernel
theorem d_LW_law_414 : decode code 414 = .ok (.ireturn, 1) := by decide +kernel
theorem d_LW_law_415 : decode code 415 = .ok (.iinc 3 5, 3) := by decide +kernel
theorem d_LW_law_418 : decode code 418 = .ok (.goto (-380), 3) := by decide +kernel
theorem d_LW_law_421 : decode code 421 = .ok (.iconst 1, 1) := by decide +kernel
theorem d_LW_law_422 : decode code 422 = .ok (.ireturn, 1) := by decide +kernel
end
section
/-! pure rows: fields as lists, sets that hang together, counts -/
/-- g is the same along every edge -/
def pu_E (n : Int) (e : Int → Int → Prop) (g : Int → Int) : Prop := ∀ i j, 0 ≤ i → i < n → 0 ≤ j → j < n → e i j → g i = g j
/-- f gives everybody the least one of those that it hangs together with -/
def pu_lab (n : Int) (e : Int → Int → Prop) (f : Int → Int) : Prop :=
  (∀ i, 0 ≤ i → i < n → 0 ≤ f i ∧ f i ≤ i ∧ f (f i) = f i) ∧ pu_E n e f ∧ ∀ g, pu_E n e g → ∀ a b, 0 ≤ a → a < n → 0 ≤ b → b < n → f a = f b → g a = g b
theorem pu_uniq {n : Int} {e : Int → Int → Prop} {f f' : Int → Int} (h : pu_lab n e f) (h' : pu_lab n e f') : ∀ a, 0 ≤ a → a < n → f a = f' a := by
  intro a h0 h1
  obtain ⟨b1, b2, b3⟩ := h.1 a h0 h1
  obtain ⟨c1, c2, c3⟩ := h'.1 a h0 h1
  have e1 : f' (f a) = f' a := h.2.2 f' h'.2.1 (f a) a b1 (by omega) h0 h1 b3
  have e2 : f (f' a) = f a := h'.2.2 f h.2.1 (f' a) a c1 (by omega) h0 h1 c3
  obtain ⟨d1, d2, d3⟩ := h'.1 (f a) b1 (by omega)
  obtain ⟨g1, g2, g3⟩ := h.1 (f' a) c1 (by omega)
  omega
theorem pu_lab0 {n : Int} : pu_lab n (fun _ _ => False) (fun i => i) :=
  ⟨fun i h0 h1 => ⟨h0, Int.le_refl _, rfl⟩, fun i j _ _ _ _ h => h.elim, fun g _ a b _ _ _ _ h => congrArg g (show a = b from h)⟩
theorem pu_labC {n : Int} {e e' : Int → Int → Prop} {f f' : Int → Int} (h : pu_lab n e f) (he : ∀ i j, 0 ≤ i → i < n → 0 ≤ j → j < n → (e i j ↔ e' i j)) (hf : ∀ i, 0 ≤ i → i < n → f i = f' i) : pu_lab n e' f' := by
  refine ⟨fun i h0 h1 => ?_, fun i j a1 a2 a3 a4 hij => ?_, fun g hg a b a1 a2 a3 a4 hab => ?_⟩
  · obtain ⟨b1, b2, b3⟩ := h.1 i h0 h1
    rw [← hf i h0 h1, ← hf (f i) b1 (by omega)]
    exact ⟨b1, b2, b3⟩
  · rw [← hf i a1 a2, ← hf j a3 a4]
    exact h.2.1 i j a1 a2 a3 a4 ((he i j a1 a2 a3 a4).mpr hij)
  · rw [← hf a a1 a2, ← hf b a3 a4] at hab
    exact h.2.2 g (fun i j c1 c2 c3 c4 hij => hg i j c1 c2 c3 c4 ((he i j c1 c2 c3 c4).mp hij)) a b a1 a2 a3 a4 hab
def pu_join (f : Int → Int) (x y : Int) : Int → Int := fun m => if f m = max (f x) (f y) then min (f x) (f y) else f m
theorem pu_lab_join {n : Int} {e : Int → Int → Prop} {f : Int → Int} (h : pu_lab n e f) {x y : Int} (x0 : 0 ≤ x) (x1 : x < n) (y0 : 0 ≤ y) (y1 : y < n) : pu_lab n (fun a b => e a b ∨ (a = x ∧ b = y)) (pu_join f x y) := by
  obtain ⟨p1, p2, p3⟩ := h.1 x x0 x1
  obtain ⟨q1, q2, q3⟩ := h.1 y y0 y1
  have hx : pu_join f x y x = min (f x) (f y) := by unfold pu_join; split <;> omega
  have hy : pu_join f x y y = min (f x) (f y) := by unfold pu_join; split <;> omega
  have hk : f (min (f x) (f y)) = min (f x) (f y) := by
    rcases (show min (f x) (f y) = f x ∨ min (f x) (f y) = f y by omega) with h | h <;> rw [h] <;> assumption
  refine ⟨fun i h0 h1 => ?_, fun i j a1 a2 a3 a4 hij => ?_, fun g hg a b a1 a2 a3 a4 hab => ?_⟩
  · obtain ⟨b1, b2, b3⟩ := h.1 i h0 h1
    by_cases hi : f i = max (f x) (f y)
    · have e1 : pu_join f x y i = min (f x) (f y) := if_pos hi
      rw [e1]
      refine ⟨by omega, by omega, ?_⟩
      unfold pu_join
      rw [hk]
      split <;> omega
    · have e1 : pu_join f x y i = f i := if_neg hi
      rw [e1]
      refine ⟨b1, b2, ?_⟩
      unfold pu_join
      rw [b3, if_neg hi]
  · rcases hij with hij | ⟨rfl, rfl⟩
    · have := h.2.1 i j a1 a2 a3 a4 hij
      unfold pu_join
      rw [this]
    · rw [hx, hy]
  · have g1 : pu_E n e g := fun i j c1 c2 c3 c4 hij => hg i j c1 c2 c3 c4 (Or.inl hij)
    have g2 : g x = g y := hg x y x0 x1 y0 y1 (Or.inr ⟨rfl, rfl⟩)
    have gx : ∀ c, 0 ≤ c → c < n → f c = f x → g c = g x := fun c c0 c1 hc => h.2.2 g g1 c x c0 c1 x0 x1 hc
    have gy : ∀ c, 0 ≤ c → c < n → f c = f y → g c = g y := fun c c0 c1 hc => h.2.2 g g1 c y c0 c1 y0 y1 hc
    have gm : ∀ c, 0 ≤ c → c < n → (f c = max (f x) (f y) ∨ f c = min (f x) (f y)) → g c = g x := fun c c0 c1 hc => by
      rcases (show f c = f x ∨ f c = f y by omega) with hc | hc
      · exact gx c c0 c1 hc
      · rw [gy c c0 c1 hc, g2]
    by_cases ha : f a = max (f x) (f y)
    · by_cases hb : f b = max (f x) (f y)
      · rw [gm a a1 a2 (Or.inl ha), gm b a3 a4 (Or.inl hb)]
      · have e1 : pu_join f x y a = min (f x) (f y) := if_pos ha
        have e2 : pu_join f x y b = f b := if_neg hb
        rw [e1, e2] at hab
        rw [gm a a1 a2 (Or.inl ha), gm b a3 a4 (Or.inr hab.symm)]
    · have e1 : pu_join f x y a = f a := if_neg ha
      by_cases hb : f b = max (f x) (f y)
      · have e2 : pu_join f x y b = min (f x) (f y) := if_pos hb
        rw [e1, e2] at hab
        rw [gm a a1 a2 (Or.inr hab), gm b a3 a4 (Or.inl hb)]
      · have e2 : pu_join f x y b = f b := if_neg hb
        rw [e1, e2] at hab
        exact h.2.2 g g1 a b a1 a2 a3 a4 hab
/-- how many below n are so -/
def pu_cnt (P : Int → Bool) : Nat → Int
  | 0 => 0
  | n + 1 => pu_cnt P n + (if P n then 1 else 0)
theorem pu_cnt_le (P : Int → Bool) : ∀ n : Nat, 0 ≤ pu_cnt P n ∧ pu_cnt P n ≤ n := by
  intro n
  induction n with
  | zero => exact ⟨Int.le_refl _, Int.le_refl _⟩
  | succ n ih =>
    unfold pu_cnt
    split <;> omega
theorem pu_cnt_congr {P P' : Int → Bool} : ∀ {n : Nat}, (∀ i : Int, 0 ≤ i → i < n → P i = P' i) → pu_cnt P n = pu_cnt P' n := by
  intro n
  induction n with
  | zero => intro _; rfl
  | succ n ih =>
    intro h
    unfold pu_cnt
    rw [ih (fun i h0 h1 => h i h0 (by omega)), h n (by omega) (by omega)]
theorem pu_cnt_drop {P P' : Int → Bool} {z : Int} (h0 : 0 ≤ z) (hz : P z = true) (hz' : P' z = false) : ∀ {n : Nat}, z < n → (∀ i : Int, 0 ≤ i → i < n → i ≠ z → P i = P' i) → pu_cnt P' n = pu_cnt P n - 1 := by
  intro n
  induction n with
  | zero => intro h; omega
  | succ n ih =>
    intro h1 h
    unfold pu_cnt
    by_cases hn : z = n
    · subst hn
      rw [hz, hz', pu_cnt_congr (P := P) (P' := P') (fun i a1 a2 => h i a1 (by omega) (by omega))]
      simp
    · rw [ih (by omega) (fun i a1 a2 a3 => h i a1 (by omega) a3), h n (by omega) (by omega) (fun e => hn e.symm)]
      omega
theorem pu_cnt_mono {P : Int → Bool} {a b : Nat} (h : a ≤ b) : pu_cnt P a ≤ pu_cnt P b := by
  induction b with
  | zero =>
    rw [show a = 0 by omega]
    exact Int.le_refl _
  | succ b ih =>
    by_cases hb : a = b + 1
    · rw [hb]; exact Int.le_refl _
    · have := ih (by omega)
      have h2 : pu_cnt P b ≤ pu_cnt P (b + 1) := by
        show _ ≤ pu_cnt P b + _
        split <;> omega
      omega
theorem pu_join_cnt {n : Int} {e : Int → Int → Prop} {f : Int → Int} (h : pu_lab n e f) {x y : Int} (x0 : 0 ≤ x) (x1 : x < n) (y0 : 0 ≤ y) (y1 : y < n) (hne : f x ≠ f y) : pu_cnt (fun m => decide (pu_join f x y m = m)) n.toNat = pu_cnt (fun m => decide (f m = m)) n.toNat - 1 := by
  obtain ⟨p1, p2, p3⟩ := h.1 x x0 x1
  obtain ⟨q1, q2, q3⟩ := h.1 y y0 y1
  have hz : f (max (f x) (f y)) = max (f x) (f y) := by
    rcases (show max (f x) (f y) = f x ∨ max (f x) (f y) = f y by omega) with h | h <;> rw [h] <;> assumption
  have hk : f (min (f x) (f y)) = min (f x) (f y) := by
    rcases (show min (f x) (f y) = f x ∨ min (f x) (f y) = f y by omega) with h | h <;> rw [h] <;> assumption
  refine pu_cnt_drop (z := max (f x) (f y)) (by omega) (by simpa using hz) ?_ (by omega) (fun m m0 m1 hm => ?_)
  · have e1 : pu_join f x y (max (f x) (f y)) = min (f x) (f y) := if_pos hz
    rw [e1]
    simp only [decide_eq_false_iff_not]
    omega
  · by_cases hf : f m = max (f x) (f y)
    · have e1 : pu_join f x y m = min (f x) (f y) := if_pos hf
      rw [e1]
      have a1 : ¬ f m = m := by omega
      have a2 : ¬ min (f x) (f y) = m := fun q => by rw [← q] at hf; omega
      simp only [a1, a2, decide_false]
    · have e1 : pu_join f x y m = f m := if_neg hf
      rw [e1]
/-- joining the next pair -/
theorem pu_lab_next {n : Int} {nb : Int → Int → Prop} {f f' : Int → Int} {i j : Int} (h : pu_lab n (fun a b => (a < i ∨ (a = i ∧ b < j)) ∧ a < b ∧ nb a b) f) (i0 : 0 ≤ i) (ij : i < j) (j1 : j < n) (hnb : nb i j) (hf : ∀ t, 0 ≤ t → t < n → f' t = pu_join f i j t) : pu_lab n (fun a b => (a < i ∨ (a = i ∧ b < j + 1)) ∧ a < b ∧ nb a b) f' := by
  refine pu_labC (pu_lab_join h i0 (by omega) (by omega) j1) (fun a b a0 a1 b0 b1 => ?_) (fun t t0 t1 => (hf t t0 t1).symm)
  constructor
  · rintro (⟨h1, h2, h3⟩ | ⟨rfl, rfl⟩)
    · exact ⟨by omega, h2, h3⟩
    · exact ⟨by omega, ij, hnb⟩
  · rintro ⟨h1, h2, h3⟩
    by_cases hj : a = i ∧ b = j
    · exact Or.inr hj
    · exact Or.inl ⟨by omega, h2, h3⟩
theorem pu_lab_same {n : Int} {nb : Int → Int → Prop} {f : Int → Int} {i j : Int} (h : pu_lab n (fun a b => (a < i ∨ (a = i ∧ b < j)) ∧ a < b ∧ nb a b) f) (i0 : 0 ≤ i) (ij : i < j) (j1 : j < n) (hs : f i = f j) : pu_lab n (fun a b => (a < i ∨ (a = i ∧ b < j + 1)) ∧ a < b ∧ nb a b) f ∨ ¬ nb i j := by
  by_cases hnb : nb i j
  · refine Or.inl (pu_lab_next h i0 ij j1 hnb (fun t t0 t1 => ?_))
    unfold pu_join
    rw [hs]
    split <;> omega
  · exact Or.inr hnb
theorem pu_lab_not {n : Int} {nb : Int → Int → Prop} {f : Int → Int} {i j : Int} (h : pu_lab n (fun a b => (a < i ∨ (a = i ∧ b < j)) ∧ a < b ∧ nb a b) f) (hnb : ¬ nb i j) : pu_lab n (fun a b => (a < i ∨ (a = i ∧ b < j + 1)) ∧ a < b ∧ nb a b) f := by
  refine pu_labC h (fun a b a0 a1 b0 b1 => ?_) (fun t _ _ => rfl)
  constructor
  · rintro ⟨h1, h2, h3⟩
    exact ⟨by omega, h2, h3⟩
  · rintro ⟨h1, h2, h3⟩
    by_cases hj : a = i ∧ b = j
    · exact absurd (hj.1 ▸ hj.2 ▸ h3) hnb
    · exact ⟨by omega, h2, h3⟩
theorem pu_lab_row {n : Int} {nb : Int → Int → Prop} {f : Int → Int} {i j : Int} (h : pu_lab n (fun a b => (a < i ∨ (a = i ∧ b < j)) ∧ a < b ∧ nb a b) f) (hj : n ≤ j) : pu_lab n (fun a b => (a < i + 1 ∨ (a = i + 1 ∧ b < i + 1 + 1)) ∧ a < b ∧ nb a b) f := by
  refine pu_labC h (fun a b a0 a1 b0 b1 => ?_) (fun t _ _ => rfl)
  constructor
  · rintro ⟨h1, h2, h3⟩
    exact ⟨by omega, h2, h3⟩
  · rintro ⟨h1, h2, h3⟩
    exact ⟨by omega, h2, h3⟩
theorem pu_lab_begin {n : Int} {nb : Int → Int → Prop} {f : Int → Int} (hf : ∀ j, 0 ≤ j → j < n → f j = j) : pu_lab n (fun a b => (a < 0 ∨ (a = 0 ∧ b < 0 + 1)) ∧ a < b ∧ nb a b) f := by
  refine pu_labC pu_lab0 (fun a b a0 a1 b0 b1 => ?_) (fun t t0 t1 => (hf t t0 t1).symm)
  constructor
  · exact fun h => h.elim
  · rintro ⟨h1, h2, h3⟩
    omega
theorem pu_lab_all {n : Int} {nb : Int → Int → Prop} {f : Int → Int} {i j : Int} (h : pu_lab n (fun a b => (a < i ∨ (a = i ∧ b < j)) ∧ a < b ∧ nb a b) f) (hi : n ≤ i) : pu_lab n (fun a b => a < b ∧ nb a b) f := by
  refine pu_labC h (fun a b a0 a1 b0 b1 => ?_) (fun t _ _ => rfl)
  constructor
  · rintro ⟨h1, h2⟩
    exact h2
  · intro h2
    exact ⟨by omega, h2⟩
theorem pu_cnt_id {f : Int → Int} : ∀ {n : Nat}, (∀ j : Int, 0 ≤ j → j < n → f j = j) → pu_cnt (fun m => decide (f m = m)) n = n := by
  intro n
  induction n with
  | zero => intro _; rfl
  | succ n ih =>
    intro h
    unfold pu_cnt
    rw [ih (fun j j0 j1 => h j j0 (by omega)), if_pos (by simpa using h n (by omega) (by omega))]
    omega
end
section
/-! pure rows: how groups are gathered -/
theorem pu_cnt_s {P : Int → Bool} {i : Int} (h : 0 ≤ i) : pu_cnt P (i + 1).toNat = pu_cnt P i.toNat + (if P i then 1 else 0) := by
  rw [show (i + 1).toNat = i.toNat + 1 by omega]
  show pu_cnt P i.toNat + (if P ((i.toNat : Nat) : Int) then 1 else 0) = _
  rw [show ((i.toNat : Nat) : Int) = i by omega]
theorem pu_cnt_0 {P : Int → Bool} : ∀ {n : Nat}, (∀ i : Int, 0 ≤ i → i < n → P i = false) → pu_cnt P n = 0 := by
  intro n
  induction n with
  | zero => intro _; rfl
  | succ n ih =>
    intro h
    unfold pu_cnt
    rw [ih (fun i h0 h1 => h i h0 (by omega)), h n (by omega) (by omega)]
    rfl
def pu_min (i : Int) (f : Int → Int) (r : Int) (F : Int → Int) (v : Int) : Prop := (∀ j, 0 ≤ j → j < i → f j = r → v ≤ F j) ∧ ∃ j, 0 ≤ j ∧ j < i ∧ f j = r ∧ v = F j
def pu_max (i : Int) (f : Int → Int) (r : Int) (F : Int → Int) (v : Int) : Prop := (∀ j, 0 ≤ j → j < i → f j = r → F j ≤ v) ∧ ∃ j, 0 ≤ j ∧ j < i ∧ f j = r ∧ v = F j
theorem pu_min_uniq {i : Int} {f : Int → Int} {r : Int} {F : Int → Int} {v v' : Int} (h : pu_min i f r F v) (h' : pu_min i f r F v') : v = v' := by
  obtain ⟨a, j, j0, j1, j2, j3⟩ := h
  obtain ⟨b, l, l0, l1, l2, l3⟩ := h'
  have := a l l0 l1 l2
  have := b j j0 j1 j2
  omega
theorem pu_max_uniq {i : Int} {f : Int → Int} {r : Int} {F : Int → Int} {v v' : Int} (h : pu_max i f r F v) (h' : pu_max i f r F v') : v = v' := by
  obtain ⟨a, j, j0, j1, j2, j3⟩ := h
  obtain ⟨b, l, l0, l1, l2, l3⟩ := h'
  have := a l l0 l1 l2
  have := b j j0 j1 j2
  omega
theorem pu_min_skip {i : Int} {f : Int → Int} {r : Int} {F : Int → Int} {v : Int} (h : pu_min i f r F v) (hi : f i ≠ r) : pu_min (i + 1) f r F v := by
  obtain ⟨a, j, j0, j1, j2, j3⟩ := h
  refine ⟨fun l l0 l1 l2 => ?_, j, j0, by omega, j2, j3⟩
  by_cases hl : l = i
  · subst hl; exact absurd l2 hi
  · exact a l l0 (by omega) l2
theorem pu_max_skip {i : Int} {f : Int → Int} {r : Int} {F : Int → Int} {v : Int} (h : pu_max i f r F v) (hi : f i ≠ r) : pu_max (i + 1) f r F v := by
  obtain ⟨a, j, j0, j1, j2, j3⟩ := h
  refine ⟨fun l l0 l1 l2 => ?_, j, j0, by omega, j2, j3⟩
  by_cases hl : l = i
  · subst hl; exact absurd l2 hi
  · exact a l l0 (by omega) l2
theorem pu_min_one {i : Int} {f : Int → Int} {F : Int → Int} (h0 : 0 ≤ i) (hf : ∀ j, 0 ≤ j → j < i → f j ≠ i) (hi : f i = i) : pu_min (i + 1) f i F (F i) := by
  refine ⟨fun l l0 l1 l2 => ?_, i, h0, by omega, hi, rfl⟩
  by_cases hl : l = i
  · subst hl; exact Int.le_refl _
  · exact absurd l2 (hf l l0 (by omega))
theorem pu_max_one {i : Int} {f : Int → Int} {F : Int → Int} (h0 : 0 ≤ i) (hf : ∀ j, 0 ≤ j → j < i → f j ≠ i) (hi : f i = i) : pu_max (i + 1) f i F (F i) := by
  refine ⟨fun l l0 l1 l2 => ?_, i, h0, by omega, hi, rfl⟩
  by_cases hl : l = i
  · subst hl; exact Int.le_refl _
  · exact absurd l2 (hf l l0 (by omega))
theorem pu_min_more {i : Int} {f : Int → Int} {r : Int} {F : Int → Int} {v : Int} (h0 : 0 ≤ i) (h : pu_min i f r F v) (hi : f i = r) : pu_min (i + 1) f r F (min v (F i)) := by
  obtain ⟨a, j, j0, j1, j2, j3⟩ := h
  refine ⟨fun l l0 l1 l2 => ?_, ?_⟩
  · by_cases hl : l = i
    · subst hl; omega
    · have := a l l0 (by omega) l2
      omega
  · by_cases hv : v ≤ F i
    · exact ⟨j, j0, by omega, j2, by omega⟩
    · exact ⟨i, h0, by omega, hi, by omega⟩
theorem pu_max_more {i : Int} {f : Int → Int} {r : Int} {F : Int → Int} {v : Int} (h0 : 0 ≤ i) (h : pu_max i f r F v) (hi : f i = r) : pu_max (i + 1) f r F (max v (F i)) := by
  obtain ⟨a, j, j0, j1, j2, j3⟩ := h
  refine ⟨fun l l0 l1 l2 => ?_, ?_⟩
  · by_cases hl : l = i
    · subst hl; omega
    · have := a l l0 (by omega) l2
      omega
  · by_cases hv : F i ≤ v
    · exact ⟨j, j0, by omega, j2, by omega⟩
    · exact ⟨i, h0, by omega, hi, by omega⟩
/-- the groups of the first i things: f is their labels, F* their ends -/
def pu_grp (i : Int) (f FL FU FR FD : Int → Int) (cnt : Int) (L U R D P LP GO : Int → Int) : Prop :=
  (0 ≤ cnt ∧ cnt ≤ i) ∧
  (∀ j, 0 ≤ j → j < i → 0 ≤ GO j ∧ GO j < cnt ∧ LP (GO j) = f j) ∧
  (∀ g, 0 ≤ g → g < cnt → 0 ≤ LP g ∧ LP g < i ∧ f (LP g) = LP g ∧ GO (LP g) = g) ∧
  (∀ g h, 0 ≤ g → g < h → h < cnt → LP g < LP h) ∧
  cnt = pu_cnt (fun m => decide (f m = m)) i.toNat ∧
  (∀ g, 0 ≤ g → g < cnt → P g = pu_cnt (fun j => decide (f j = LP g)) i.toNat) ∧
  (∀ g, 0 ≤ g → g < cnt → pu_min i f (LP g) FL (L g) ∧ pu_min i f (LP g) FU (U g) ∧ pu_max i f (LP g) FR (R g) ∧ pu_max i f (LP g) FD (D g))
theorem pu_grp0 {f FL FU FR FD L U R D P LP GO : Int → Int} : pu_grp 0 f FL FU FR FD 0 L U R D P LP GO :=
  ⟨⟨Int.le_refl _, Int.le_refl _⟩, fun j _ _ => by omega, fun j _ _ => by omega, fun j _ _ _ _ => by omega, rfl, fun j _ _ => by omega, fun j _ _ => by omega⟩
theorem pu_grp_begin {i : Int} {f FL FU FR FD : Int → Int} {cnt : Int} {L U R D P LP GO : Int → Int} (h : pu_grp i f FL FU FR FD cnt L U R D P LP GO) (h0 : 0 ≤ i) (hf : ∀ j, 0 ≤ j → j < i + 1 → 0 ≤ f j ∧ f j ≤ j ∧ f (f j) = f j) (hi : f i = i) :
    pu_grp (i + 1) f FL FU FR FD (cnt + 1) (mv_s L cnt (FL i)) (mv_s U cnt (FU i)) (mv_s R cnt (FR i)) (mv_s D cnt (FD i)) (mv_s P cnt 1) (mv_s LP cnt i) (mv_s GO i cnt) := by
  obtain ⟨⟨c0, c1⟩, hG, hL, hI, hc, hP, hM⟩ := h
  have hne : ∀ j, 0 ≤ j → j < i → f j ≠ i := fun j j0 j1 => by have := hf j j0 (by omega); omega
  refine ⟨⟨by omega, by omega⟩, fun j j0 j1 => ?_, fun g g0 g1 => ?_, fun g g' g0 g1 g2 => ?_, ?_, fun g g0 g1 => ?_, fun g g0 g1 => ?_⟩
  · by_cases hj : j = i
    · subst hj
      rw [mv_ss, mv_ss]
      exact ⟨c0, by omega, hi.symm⟩
    · rw [mv_sn hj]
      obtain ⟨a, b, c⟩ := hG j j0 (by omega)
      rw [mv_sn (by omega)]
      exact ⟨a, by omega, c⟩
  · by_cases hg : g = cnt
    · subst hg
      rw [mv_ss, mv_ss]
      exact ⟨h0, by omega, hi, rfl⟩
    · rw [mv_sn hg]
      obtain ⟨a, b, c, d⟩ := hL g g0 (by omega)
      rw [mv_sn (by omega)]
      exact ⟨a, by omega, c, d⟩
  · rw [mv_sn (show g ≠ cnt by omega)]
    by_cases hg : g' = cnt
    · subst hg
      rw [mv_ss]
      exact (hL g g0 g1).2.1
    · rw [mv_sn hg]
      exact hI g g' g0 g1 (by omega)
  · rw [pu_cnt_s h0, ← hc, if_pos (by simpa using hi)]
  · rw [pu_cnt_s h0]
    by_cases hg : g = cnt
    · subst hg
      rw [mv_ss, mv_ss, if_pos (by simpa using hi), pu_cnt_0 (fun j j0 j1 => by simpa using hne j j0 (by omega))]
      rfl
    · rw [mv_sn hg, mv_sn hg, hP g g0 (by omega), if_neg]
      · omega
      · have := hL g g0 (by omega)
        simp only [decide_eq_true_eq]
        omega
  · by_cases hg : g = cnt
    · subst hg
      rw [mv_ss, mv_ss, mv_ss, mv_ss, mv_ss]
      exact ⟨pu_min_one h0 hne hi, pu_min_one h0 hne hi, pu_max_one h0 hne hi, pu_max_one h0 hne hi⟩
    · rw [mv_sn hg, mv_sn hg, mv_sn hg, mv_sn hg, mv_sn hg]
      obtain ⟨a, b, c, d⟩ := hM g g0 (by omega)
      have hq := hL g g0 (by omega)
      have hq2 : f i ≠ LP g := by omega
      exact ⟨pu_min_skip a hq2, pu_min_skip b hq2, pu_max_skip c hq2, pu_max_skip d hq2⟩
theorem pu_grp_extend {i : Int} {f FL FU FR FD : Int → Int} {cnt : Int} {L U R D P LP GO : Int → Int} (h : pu_grp i f FL FU FR FD cnt L U R D P LP GO) (h0 : 0 ≤ i) (hf : ∀ j, 0 ≤ j → j < i + 1 → 0 ≤ f j ∧ f j ≤ j ∧ f (f j) = f j) (hi : f i ≠ i) {g : Int} (hg : GO (f i) = g) :
    pu_grp (i + 1) f FL FU FR FD cnt (mv_s L g (min (L g) (FL i))) (mv_s U g (min (U g) (FU i))) (mv_s R g (max (R g) (FR i))) (mv_s D g (max (D g) (FD i))) (mv_s P g (P g + 1)) LP (mv_s GO i g) := by
  obtain ⟨⟨c0, c1⟩, hG, hL, hI, hc, hP, hM⟩ := h
  obtain ⟨f1, f2, f3⟩ := hf i h0 (by omega)
  obtain ⟨k1, k2, k3⟩ := hG (f i) f1 (by omega)
  rw [hg] at k1 k2 k3
  rw [f3] at k3
  have hinj : ∀ x, 0 ≤ x → x < cnt → LP x = LP g → x = g := fun x x0 x1 hx => by
    rcases Int.lt_trichotomy x g with q | q | q
    · have := hI x g x0 q k2; omega
    · exact q
    · have := hI g x k1 q x1; omega
  refine ⟨⟨c0, by omega⟩, fun j j0 j1 => ?_, fun x x0 x1 => ?_, hI, ?_, fun x x0 x1 => ?_, fun x x0 x1 => ?_⟩
  · by_cases hj : j = i
    · subst hj
      rw [mv_ss]
      exact ⟨k1, k2, k3⟩
    · rw [mv_sn hj]
      exact hG j j0 (by omega)
  · obtain ⟨a, b, c, d⟩ := hL x x0 x1
    rw [mv_sn (by omega)]
    exact ⟨a, by omega, c, d⟩
  · rw [pu_cnt_s h0, ← hc, if_neg (by simpa using hi)]
    omega
  · rw [pu_cnt_s h0]
    by_cases hx : x = g
    · subst hx
      rw [mv_ss, if_pos (by simpa using k3.symm), hP x x0 x1]
    · rw [mv_sn hx, if_neg, hP x x0 x1]
      · omega
      · simp only [decide_eq_true_eq]
        intro q
        exact hx (hinj x x0 x1 (by omega))
  · obtain ⟨a, b, c, d⟩ := hM x x0 x1
    by_cases hx : x = g
    · subst hx
      rw [mv_ss, mv_ss, mv_ss, mv_ss]
      exact ⟨pu_min_more h0 a k3.symm, pu_min_more h0 b k3.symm, pu_max_more h0 c k3.symm, pu_max_more h0 d k3.symm⟩
    · rw [mv_sn hx, mv_sn hx, mv_sn hx, mv_sn hx]
      have hq2 : f i ≠ LP x := fun q => hx (hinj x x0 x1 (by omega))
      exact ⟨pu_min_skip a hq2, pu_min_skip b hq2, pu_max_skip c hq2, pu_max_skip d hq2⟩
end
section
/-! pure rows: things put in order -/
def pu_ord (n : Int) (O : Int → Int) (cb : Int → Int → Prop) : Prop :=
  (∀ p, 0 ≤ p → p < n → 0 ≤ O p ∧ O p < n) ∧ (∀ p q, 0 ≤ p → p < q → q < n → cb (O p) (O q)) ∧ ∀ x, 0 ≤ x → x < n → ∃ p, 0 ≤ p ∧ p < n ∧ O p = x
theorem pu_ord0 {O : Int → Int} {cb : Int → Int → Prop} : pu_ord 0 O cb := ⟨fun p _ _ => by omega, fun p q _ _ _ => by omega, fun x _ _ => by omega⟩
theorem pu_ins {g fr : Int} {O0 O : Int → Int} {cb : Int → Int → Prop} (h : pu_ord g O0 cb) (g0 : 0 ≤ g) (f0 : 0 ≤ fr) (f1 : fr ≤ g) (tr : ∀ a b c, cb a b → cb b c → cb a c) (to : ∀ a b, a ≠ b → ¬ cb a b → cb b a)
    (h1 : ∀ p, 0 ≤ p → p < fr → O p = O0 p) (h2 : ∀ p, fr ≤ p → p < g → O (p + 1) = O0 p) (h3 : ∀ p, fr ≤ p → p < g → cb g (O0 p)) (h4 : fr = 0 ∨ ¬ cb g (O0 (fr - 1))) : pu_ord (g + 1) (mv_s O fr g) cb := by
  obtain ⟨ha, hb, hc⟩ := h
  have hlow : ∀ p, 0 ≤ p → p < fr → cb (O0 p) g := fun p p0 p1 => by
    have hl : cb (O0 (fr - 1)) g := by
      rcases h4 with h4 | h4
      · omega
      · exact to g (O0 (fr - 1)) (by have := ha (fr - 1) (by omega) (by omega); omega) h4
    by_cases hp : p = fr - 1
    · rw [hp]; exact hl
    · exact tr _ _ _ (hb p (fr - 1) p0 (by omega) (by omega)) hl
  have e1 : ∀ p, 0 ≤ p → p < fr → mv_s O fr g p = O0 p := fun p p0 p1 => by rw [mv_sn (by omega)]; exact h1 p p0 p1
  have e2 : ∀ p, fr < p → p < g + 1 → mv_s O fr g p = O0 (p - 1) := fun p p0 p1 => by
    rw [mv_sn (by omega)]
    have := h2 (p - 1) (by omega) (by omega)
    rw [show p - 1 + 1 = p by omega] at this
    exact this
  have e3 : mv_s O fr g fr = g := mv_ss
  refine ⟨fun p p0 p1 => ?_, fun p q p0 p1 q1 => ?_, fun x x0 x1 => ?_⟩
  · rcases Int.lt_trichotomy p fr with q | q | q
    · rw [e1 p p0 q]; have := ha p p0 (by omega); omega
    · rw [q, e3]; omega
    · rw [e2 p q p1]; have := ha (p - 1) (by omega) (by omega); omega
  · rcases Int.lt_trichotomy q fr with hq | hq | hq
    · rw [e1 p p0 (by omega), e1 q (by omega) hq]; exact hb p q p0 p1 (by omega)
    · rw [e1 p p0 (by omega), hq, e3]; exact hlow p p0 (by omega)
    · rw [e2 q hq q1]
      rcases Int.lt_trichotomy p fr with hp | hp | hp
      · rw [e1 p p0 hp]; exact hb p (q - 1) p0 (by omega) (by omega)
      · rw [hp, e3]; exact h3 (q - 1) (by omega) (by omega)
      · rw [e2 p hp (by omega)]; exact hb (p - 1) (q - 1) (by omega) (by omega) (by omega)
  · by_cases hx : x = g
    · exact ⟨fr, f0, by omega, by rw [e3, hx]⟩
    · obtain ⟨p, p0, p1, p2⟩ := hc x x0 (by omega)
      by_cases hp : p < fr
      · exact ⟨p, p0, by omega, by rw [e1 p p0 hp, p2]⟩
      · exact ⟨p + 1, by omega, by omega, by rw [e2 (p + 1) (by omega) (by omega), show p + 1 - 1 = p by omega, p2]⟩
theorem pu_inj {n : Int} {A : Int → Int} {cb : Int → Int → Prop} (irr : ∀ a, ¬ cb a a) (hA : pu_ord n A cb) : ∀ p q, 0 ≤ p → p < n → 0 ≤ q → q < n → A p = A q → p = q := by
  intro p q p0 p1 q0 q1 e
  rcases Int.lt_trichotomy p q with w | w | w
  · exact absurd (e ▸ hA.2.1 p q p0 w q1) (irr _)
  · exact w
  · exact absurd (e ▸ hA.2.1 q p q0 w p1) (irr _)
/-- two orders of the same things are the same -/
theorem pu_ord_uniq {n : Int} {O O' : Int → Int} {cb : Int → Int → Prop} (irr : ∀ a, ¬ cb a a) (tr : ∀ a b c, cb a b → cb b c → cb a c) (h : pu_ord n O cb) (h' : pu_ord n O' cb) : ∀ p, 0 ≤ p → p < n → O p = O' p := by
  have main : ∀ m : Nat, ∀ p : Int, 0 ≤ p → p < m → p < n → O p = O' p := by
    intro m
    induction m with
    | zero => intro p h0 h1; omega
    | succ m ih =>
      intro p p0 p1 pn
      have low : ∀ q, 0 ≤ q → q < p → O q = O' q := fun q q0 q1 => ih q q0 (by omega) (by omega)
      obtain ⟨a, a0, a1, a2⟩ := h'.2.2 (O p) (h.1 p p0 pn).1 (h.1 p p0 pn).2
      obtain ⟨b, b0, b1, b2⟩ := h.2.2 (O' p) (h'.1 p p0 pn).1 (h'.1 p p0 pn).2
      rcases Int.lt_trichotomy a p with w | w | w
      · have := pu_inj irr h a p a0 a1 p0 pn (by rw [low a a0 w, a2])
        omega
      · rw [← a2, w]
      · rcases Int.lt_trichotomy b p with v | v | v
        · have := pu_inj irr h' b p b0 b1 p0 pn (by rw [← low b b0 v, b2])
          omega
        · rw [← b2, v]
        · have c1 := h'.2.1 p a p0 w a1
          have c2 := h.2.1 p b p0 v b1
          rw [a2] at c1
          rw [b2] at c2
          exact absurd (tr _ _ _ c1 c2) (irr _)
  intro p p0 p1
  exact main (p.toNat + 1) p p0 (by omega) p1
end
section
/-! pure rows: boxes measured block by block -/
def pu_msr (i nk : Int) (gb hh BS HB LB : Int → Int) : Prop := ∀ b, 0 ≤ b → b < nk → BS b = pu_cnt (fun j => decide (gb j = b)) i.toNat ∧ (0 ≤ HB b ∧ HB b ≤ 4096) ∧ (0 ≤ LB b ∧ LB b ≤ 4096) ∧ (∀ j, 0 ≤ j → j < i → gb j = b → hh j ≤ HB b ∧ LB b ≤ hh j) ∧ (HB b = 0 ∨ ∃ j, 0 ≤ j ∧ j < i ∧ gb j = b ∧ HB b = hh j) ∧ (LB b = 4096 ∨ ∃ j, 0 ≤ j ∧ j < i ∧ gb j = b ∧ LB b = hh j)
theorem pu_msr0 {nk : Int} {gb hh BS HB LB : Int → Int} (h : ∀ b, 0 ≤ b → b < nk → BS b = 0 ∧ HB b = 0 ∧ LB b = 4096) : pu_msr 0 nk gb hh BS HB LB := by
  intro b b0 b1
  obtain ⟨h1, h2, h3⟩ := h b b0 b1
  exact ⟨h1, by omega, by omega, fun j j0 j1 => by omega, Or.inl h2, Or.inl h3⟩
theorem pu_msr_s {i nk : Int} {gb hh BS HB LB : Int → Int} (h : pu_msr i nk gb hh BS HB LB) (i0 : 0 ≤ i) {g v : Int} (hg : gb i = g) (hv : hh i = v) (v0 : 0 ≤ v) (v1 : v ≤ 4096) : pu_msr (i + 1) nk gb hh (mv_s BS g (BS g + 1)) (mv_s HB g (max (HB g) v)) (mv_s LB g (min (LB g) v)) := by
  intro b b0 b1
  obtain ⟨h1, h2, h3, h4, h5, h6⟩ := h b b0 b1
  rw [pu_cnt_s i0]
  by_cases hb : b = g
  · subst hb
    rw [mv_ss, mv_ss, mv_ss, if_pos (by simpa using hg), h1]
    refine ⟨rfl, by omega, by omega, fun j j0 j1 e => ?_, ?_, ?_⟩
    · by_cases hj : j = i
      · subst hj; omega
      · have := h4 j j0 (by omega) e; omega
    · by_cases hm : HB b ≤ v
      · exact Or.inr ⟨i, i0, by omega, hg, by omega⟩
      · rcases h5 with h5 | ⟨j, j0, j1, j2, j3⟩
        · omega
        · exact Or.inr ⟨j, j0, by omega, j2, by omega⟩
    · by_cases hm : v ≤ LB b
      · exact Or.inr ⟨i, i0, by omega, hg, by omega⟩
      · rcases h6 with h6 | ⟨j, j0, j1, j2, j3⟩
        · omega
        · exact Or.inr ⟨j, j0, by omega, j2, by omega⟩
  · have hgb : ¬ gb i = b := fun e => hb (by omega)
    rw [mv_sn hb, mv_sn hb, mv_sn hb, if_neg (by simpa using hgb), h1]
    refine ⟨by omega, h2, h3, fun j j0 j1 e => ?_, ?_, ?_⟩
    · by_cases hj : j = i
      · subst hj; exact absurd e hgb
      · exact h4 j j0 (by omega) e
    · rcases h5 with h5 | ⟨j, j0, j1, j2, j3⟩
      · exact Or.inl h5
      · exact Or.inr ⟨j, j0, by omega, j2, j3⟩
    · rcases h6 with h6 | ⟨j, j0, j1, j2, j3⟩
      · exact Or.inl h6
      · exact Or.inr ⟨j, j0, by omega, j2, j3⟩
end
section
/-! more short rows: calls of constructors, new cells -/
/-- a cell more, of the number n -/
def mv_a (n : Nat) (M : mv_M) (c : mv_C) : mv_M := (n + 1, mv_u M.2 n c)
theorem mv_as {n : Nat} {M : mv_M} {c : mv_C} : (mv_a n M c).2 n = c := mv_us
theorem mv_an {n j : Nat} {M : mv_M} {c : mv_C} (h : j ≠ n) : (mv_a n M c).2 j = M.2 j := mv_un h
section MZ
variable {md : mv_D} {pc : Nat} {lo st : List mv_V} {M : mv_M} {bu : Nat × Nat} {Q : List mv_V → mv_M → Prop}
theorem mx_cI0 {md' : mv_D} {o ix : Nat} (hd : decode md.2.1 pc = .ok (.invokespecial ix, 3)) (hw : mv_cI md.1.cls ix md') (hn : (parseMethodDescriptor md'.1.desc).map (fun d => d.parameters.length) = some 0) (hfit : mv_fit md md') (hbu : bu.1 + md'.2.2.2.2.cells ≤ md.2.2.2.2.cells ∧ bu.2 + md'.2.2.2.2.slots ≤ md.2.2.2.2.slots) (ho : o ≠ 0) (h8 : st.length ≤ 8) (k : mv_J md' [.inr o] M (fun r M' => mv_W md (pc + 3) lo (r ++ st) M' (bu.1 + md'.2.2.2.2.cells, bu.2 + md'.2.2.2.2.slots) Q)) : mv_W md pc lo (.inr o :: st) M bu Q :=
  mx_callI (as := []) hd hw hn hfit hbu ho rfl h8 k
theorem mx_cI1 {md' : mv_D} {a1 : mv_V} {o ix : Nat} (hd : decode md.2.1 pc = .ok (.invokespecial ix, 3)) (hw : mv_cI md.1.cls ix md') (hn : (parseMethodDescriptor md'.1.desc).map (fun d => d.parameters.length) = some 1) (hfit : mv_fit md md') (hbu : bu.1 + md'.2.2.2.2.cells ≤ md.2.2.2.2.cells ∧ bu.2 + md'.2.2.2.2.slots ≤ md.2.2.2.2.slots) (ho : o ≠ 0) (h8 : st.length ≤ 8) (k : mv_J md' [.inr o, a1] M (fun r M' => mv_W md (pc + 3) lo (r ++ st) M' (bu.1 + md'.2.2.2.2.cells, bu.2 + md'.2.2.2.2.slots) Q)) : mv_W md pc lo (a1 :: .inr o :: st) M bu Q :=
  mx_callI (as := [a1]) hd hw hn hfit hbu ho rfl h8 k
theorem mx_cI2 {md' : mv_D} {a1 a2 : mv_V} {o ix : Nat} (hd : decode md.2.1 pc = .ok (.invokespecial ix, 3)) (hw : mv_cI md.1.cls ix md') (hn : (parseMethodDescriptor md'.1.desc).map (fun d => d.parameters.length) = some 2) (hfit : mv_fit md md') (hbu : bu.1 + md'.2.2.2.2.cells ≤ md.2.2.2.2.cells ∧ bu.2 + md'.2.2.2.2.slots ≤ md.2.2.2.2.slots) (ho : o ≠ 0) (h8 : st.length ≤ 8) (k : mv_J md' [.inr o, a1, a2] M (fun r M' => mv_W md (pc + 3) lo (r ++ st) M' (bu.1 + md'.2.2.2.2.cells, bu.2 + md'.2.2.2.2.slots) Q)) : mv_W md pc lo (a2 :: a1 :: .inr o :: st) M bu Q :=
  mx_callI (as := [a1, a2]) hd hw hn hfit hbu ho rfl h8 k
theorem mx_cN0 {md' : mv_D} {o ix : Nat} (hd : decode md.2.1 pc = .ok (.invokespecial ix, 3)) (hw : mv_cN md.1.cls ix md') (hn : (parseMethodDescriptor md'.1.desc).map (fun d => d.parameters.length) = some 0) (hfit : mv_fit md md') (hbu : bu.1 + md'.2.2.2.2.cells ≤ md.2.2.2.2.cells ∧ bu.2 + md'.2.2.2.2.slots ≤ md.2.2.2.2.slots) (ho : o ≠ 0) (h8 : st.length ≤ 8) (k : mv_J md' [.inr o] M (fun r M' => mv_W md (pc + 3) lo (r ++ st) M' (bu.1 + md'.2.2.2.2.cells, bu.2 + md'.2.2.2.2.slots) Q)) : mv_W md pc lo (.inr o :: st) M bu Q :=
  mx_callN (as := []) hd hw hn hfit hbu ho rfl h8 k
theorem mx_cN1 {md' : mv_D} {a1 : mv_V} {o ix : Nat} (hd : decode md.2.1 pc = .ok (.invokespecial ix, 3)) (hw : mv_cN md.1.cls ix md') (hn : (parseMethodDescriptor md'.1.desc).map (fun d => d.parameters.length) = some 1) (hfit : mv_fit md md') (hbu : bu.1 + md'.2.2.2.2.cells ≤ md.2.2.2.2.cells ∧ bu.2 + md'.2.2.2.2.slots ≤ md.2.2.2.2.slots) (ho : o ≠ 0) (h8 : st.length ≤ 8) (k : mv_J md' [.inr o, a1] M (fun r M' => mv_W md (pc + 3) lo (r ++ st) M' (bu.1 + md'.2.2.2.2.cells, bu.2 + md'.2.2.2.2.slots) Q)) : mv_W md pc lo (a1 :: .inr o :: st) M bu Q :=
  mx_callN (as := [a1]) hd hw hn hfit hbu ho rfl h8 k
theorem mx_cN2 {md' : mv_D} {a1 a2 : mv_V} {o ix : Nat} (hd : decode md.2.1 pc = .ok (.invokespecial ix, 3)) (hw : mv_cN md.1.cls ix md') (hn : (parseMethodDescriptor md'.1.desc).map (fun d => d.parameters.length) = some 2) (hfit : mv_fit md md') (hbu : bu.1 + md'.2.2.2.2.cells ≤ md.2.2.2.2.cells ∧ bu.2 + md'.2.2.2.2.slots ≤ md.2.2.2.2.slots) (ho : o ≠ 0) (h8 : st.length ≤ 8) (k : mv_J md' [.inr o, a1, a2] M (fun r M' => mv_W md (pc + 3) lo (r ++ st) M' (bu.1 + md'.2.2.2.2.cells, bu.2 + md'.2.2.2.2.slots) Q)) : mv_W md pc lo (a2 :: a1 :: .inr o :: st) M bu Q :=
  mx_callN (as := [a1, a2]) hd hw hn hfit hbu ho rfl h8 k
theorem mx_na {n N : Nat} {x : Int} (hd : decode md.2.1 pc = .ok (.newarray .int, 2)) (hw : Cond.arrayClass .int ∈ mv_tb) (hM : M.1 = n) (h0 : 0 ≤ x) (hx : x ≤ 100000) (hN : x.toNat = N) (hc1 : bu.1 + 1 ≤ md.2.2.2.2.cells) (hc2 : bu.2 + N ≤ md.2.2.2.2.slots) (k : mv_W md (pc + 2) lo (.inr n :: st) (mv_a n M (.inl (N, fun _ => 0))) (bu.1 + 1, bu.2 + N) Q) : mv_W md pc lo (.inl x :: st) M bu Q := by
  subst hM; subst hN
  exact mx_newa hd hw h0 hx hc1 hc2 k
theorem mx_nz {n N : Nat} {x : Int} (hd : decode md.2.1 pc = .ok (.newarray .boolean, 2)) (hw : Cond.arrayClass .boolean ∈ mv_tb) (hM : M.1 = n) (h0 : 0 ≤ x) (hx : x ≤ 100000) (hN : x.toNat = N) (hc1 : bu.1 + 1 ≤ md.2.2.2.2.cells) (hc2 : bu.2 + N ≤ md.2.2.2.2.slots) (k : mv_W md (pc + 2) lo (.inr n :: st) (mv_a n M (.inr (5000 + N, fun _ => .inl 0))) (bu.1 + 1, bu.2 + N) Q) : mv_W md pc lo (.inl x :: st) M bu Q := by
  subst hM; subst hN
  exact mx_newz hd hw h0 hx hc1 hc2 k
theorem mx_nw {ix ci n : Nat} {df : Nat → mv_V} (hd : decode md.2.1 pc = .ok (.new ix, 3)) (hw : mv_Nw md.1.cls ix ci df) (hM : M.1 = n) (hc1 : bu.1 + 1 ≤ md.2.2.2.2.cells) (hc2 : bu.2 + mv_N ci ≤ md.2.2.2.2.slots) (k : mv_W md (pc + 3) lo (.inr n :: st) (mv_a n M (.inr (ci, df))) (bu.1 + 1, bu.2 + mv_N ci) Q) : mv_W md pc lo st M bu Q := by
  subst hM
  exact mx_new hd hw hc1 hc2 k
theorem mx_bu {bu' : Nat × Nat} (h : bu = bu') (k : mv_W md pc lo st M bu' Q) : mv_W md pc lo st M bu Q := h ▸ k
end MZ
end
section
/-! the class: rectangles -/
def bf_R (M : mv_M) (o n : Nat) (cnt : Int) (L U R D : Int → Int) : Prop :=
  M.2 o = .inr (ki_R, mv_l [.inr (o + 1), .inr (o + 2), .inr (o + 3), .inr (o + 4), .inl cnt]) ∧ M.2 (o + 1) = .inl (n, L) ∧ M.2 (o + 2) = .inl (n, U) ∧ M.2 (o + 3) = .inl (n, R) ∧ M.2 (o + 4) = .inl (n, D)
def bf_o (t : Int) (a b : Int → Int) (i : Int) : Int := if t = 1 then b i else a i
theorem bf_o0 {a b : Int → Int} {i : Int} : bf_o 0 a b i = a i := if_neg (by omega)
theorem bf_o1 {a b : Int → Int} {i : Int} : bf_o 1 a b i = b i := if_pos rfl
theorem bf_has {M : mv_M} {o n : Nat} {cnt : Int} {L U R D : Int → Int} (ho : 2 ≤ o) (hR : bf_R M o n cnt L U R D) {i : Int} {Q : List mv_V → mv_M → Prop} (k1 : (0 ≤ i ∧ i < cnt) → Q [.inl 1] M) (k0 : ¬ (0 ≤ i ∧ i < cnt) → Q [.inl 0] M)  : mv_J md_R_has [.inr o, .inl i] M Q := by
  refine mv_enter (by decide +kernel) (Nat.le_of_ble_eq_true rfl) ?_
  show mv_W md_R_has 0 [.inr o, .inl i] [] M (0, 0) Q
  refine mx_iload_n d_R_has_0 rfl ?_
  refine mx_if_lt 16 d_R_has_1 (by decide) (fun c1 => ?_) (fun c1 => ?_)
  · skip
    refine mx_iconst (0) d_R_has_16 (by decide +kernel) (by unfold mv_r; omega) ?_
    refine mx_zreturn d_R_has_17 rfl (by omega) ?_
    first | exact k1 (by omega) | exact k0 (by omega)
  · skip
    refine mx_iload_n d_R_has_4 rfl ?_
    refine mx_aload_n d_R_has_5 rfl (by omega) ?_
    refine mx_gl d_R_has_6 f_R_9 hR.1 rfl ?_
    refine mx_icmp_ge 16 d_R_has_9 (by decide) (fun c9 => ?_) (fun c9 => ?_)
    · skip
      refine mx_iconst (0) d_R_has_16 (by decide +kernel) (by unfold mv_r; omega) ?_
      refine mx_zreturn d_R_has_17 rfl (by omega) ?_
      first | exact k1 (by omega) | exact k0 (by omega)
    · skip
      refine mx_iconst (1) d_R_has_12 (by decide +kernel) (by unfold mv_r; omega) ?_
      refine mx_goto 17 d_R_has_13 (by decide) ?_
      refine mx_zreturn d_R_has_17 rfl (by omega) ?_
      first | exact k1 (by omega) | exact k0 (by omega)
theorem bf_leftEnd {M : mv_M} {o n : Nat} {cnt : Int} {L U R D : Int → Int} (ho : 2 ≤ o) (hR : bf_R M o n cnt L U R D) {i t : Int} (h0 : 0 ≤ i) (h1 : i < n) (ht : t = 0 ∨ t = 1) {Q : List mv_V → mv_M → Prop} (k : Q [.inl (bf_o t L U i)] M)  : mv_J md_R_leftEnd [.inr o, .inl i, .inl t] M Q := by
  refine mv_enter (by decide +kernel) (Nat.le_of_ble_eq_true rfl) ?_
  show mv_W md_R_leftEnd 0 [.inr o, .inl i, .inl t] [] M (0, 0) Q
  refine mx_iload_n d_R_leftEnd_0 rfl ?_
  refine mx_if_eq 13 d_R_leftEnd_1 (by decide) (fun c1 => ?_) (fun c1 => ?_)
  · skip
    refine mx_aload_n d_R_leftEnd_13 rfl (by omega) ?_
    refine mx_gl d_R_leftEnd_14 f_R_21 hR.1 rfl ?_
    refine mx_iload_n d_R_leftEnd_17 rfl ?_
    refine mx_iald d_R_leftEnd_18 hR.2.1 (by omega) (by omega) ?_
    refine mx_ireturn d_R_leftEnd_19 rfl ?_
    first | (rw [show bf_o t L U i = U i from if_pos (by omega)] at k; exact k) | (rw [show bf_o t L U i = L i from if_neg (by omega)] at k; exact k)
  · skip
    refine mx_aload_n d_R_leftEnd_4 rfl (by omega) ?_
    refine mx_gl d_R_leftEnd_5 f_R_25 hR.1 rfl ?_
    refine mx_iload_n d_R_leftEnd_8 rfl ?_
    refine mx_iald d_R_leftEnd_9 hR.2.2.1 (by omega) (by omega) ?_
    refine mx_goto 19 d_R_leftEnd_10 (by decide) ?_
    refine mx_ireturn d_R_leftEnd_19 rfl ?_
    first | (rw [show bf_o t L U i = U i from if_pos (by omega)] at k; exact k) | (rw [show bf_o t L U i = L i from if_neg (by omega)] at k; exact k)
theorem bf_upperEnd {M : mv_M} {o n : Nat} {cnt : Int} {L U R D : Int → Int} (ho : 2 ≤ o) (hR : bf_R M o n cnt L U R D) {i t : Int} (h0 : 0 ≤ i) (h1 : i < n) (ht : t = 0 ∨ t = 1) {Q : List mv_V → mv_M → Prop} (k : Q [.inl (bf_o t U L i)] M)  : mv_J md_R_upperEnd [.inr o, .inl i, .inl t] M Q := by
  refine mv_enter (by decide +kernel) (Nat.le_of_ble_eq_true rfl) ?_
  show mv_W md_R_upperEnd 0 [.inr o, .inl i, .inl t] [] M (0, 0) Q
  refine mx_iload_n d_R_upperEnd_0 rfl ?_
  refine mx_if_eq 13 d_R_upperEnd_1 (by decide) (fun c1 => ?_) (fun c1 => ?_)
  · skip
    refine mx_aload_n d_R_upperEnd_13 rfl (by omega) ?_
    refine mx_gl d_R_upperEnd_14 f_R_25 hR.1 rfl ?_
    refine mx_iload_n d_R_upperEnd_17 rfl ?_
    refine mx_iald d_R_upperEnd_18 hR.2.2.1 (by omega) (by omega) ?_
    refine mx_ireturn d_R_upperEnd_19 rfl ?_
    first | (rw [show bf_o t U L i = L i from if_pos (by omega)] at k; exact k) | (rw [show bf_o t U L i = U i from if_neg (by omega)] at k; exact k)
  · skip
    refine mx_aload_n d_R_upperEnd_4 rfl (by omega) ?_
    refine mx_gl d_R_upperEnd_5 f_R_21 hR.1 rfl ?_
    refine mx_iload_n d_R_upperEnd_8 rfl ?_
    refine mx_iald d_R_upperEnd_9 hR.2.1 (by omega) (by omega) ?_
    refine mx_goto 19 d_R_upperEnd_10 (by decide) ?_
    refine mx_ireturn d_R_upperEnd_19 rfl ?_
    first | (rw [show bf_o t U L i = L i from if_pos (by omega)] at k; exact k) | (rw [show bf_o t U L i = U i from if_neg (by omega)] at k; exact k)
theorem bf_rightEnd {M : mv_M} {o n : Nat} {cnt : Int} {L U R D : Int → Int} (ho : 2 ≤ o) (hR : bf_R M o n cnt L U R D) {i t : Int} (h0 : 0 ≤ i) (h1 : i < n) (ht : t = 0 ∨ t = 1) {Q : List mv_V → mv_M → Prop} (k : Q [.inl (bf_o t R D i)] M)  : mv_J md_R_rightEnd [.inr o, .inl i, .inl t] M Q := by
  refine mv_enter (by decide +kernel) (Nat.le_of_ble_eq_true rfl) ?_
  show mv_W md_R_rightEnd 0 [.inr o, .inl i, .inl t] [] M (0, 0) Q
  refine mx_iload_n d_R_rightEnd_0 rfl ?_
  refine mx_if_eq 13 d_R_rightEnd_1 (by decide) (fun c1 => ?_) (fun c1 => ?_)
  · skip
    refine mx_aload_n d_R_rightEnd_13 rfl (by omega) ?_
    refine mx_gl d_R_rightEnd_14 f_R_28 hR.1 rfl ?_
    refine mx_iload_n d_R_rightEnd_17 rfl ?_
    refine mx_iald d_R_rightEnd_18 hR.2.2.2.1 (by omega) (by omega) ?_
    refine mx_ireturn d_R_rightEnd_19 rfl ?_
    first | (rw [show bf_o t R D i = D i from if_pos (by omega)] at k; exact k) | (rw [show bf_o t R D i = R i from if_neg (by omega)] at k; exact k)
  · skip
    refine mx_aload_n d_R_rightEnd_4 rfl (by omega) ?_
    refine mx_gl d_R_rightEnd_5 f_R_31 hR.1 rfl ?_
    refine mx_iload_n d_R_rightEnd_8 rfl ?_
    refine mx_iald d_R_rightEnd_9 hR.2.2.2.2 (by omega) (by omega) ?_
    refine mx_goto 19 d_R_rightEnd_10 (by decide) ?_
    refine mx_ireturn d_R_rightEnd_19 rfl ?_
    first | (rw [show bf_o t R D i = D i from if_pos (by omega)] at k; exact k) | (rw [show bf_o t R D i = R i from if_neg (by omega)] at k; exact k)
theorem bf_lowerEnd {M : mv_M} {o n : Nat} {cnt : Int} {L U R D : Int → Int} (ho : 2 ≤ o) (hR : bf_R M o n cnt L U R D) {i t : Int} (h0 : 0 ≤ i) (h1 : i < n) (ht : t = 0 ∨ t = 1) {Q : List mv_V → mv_M → Prop} (k : Q [.inl (bf_o t D R i)] M)  : mv_J md_R_lowerEnd [.inr o, .inl i, .inl t] M Q := by
  refine mv_enter (by decide +kernel) (Nat.le_of_ble_eq_true rfl) ?_
  show mv_W md_R_lowerEnd 0 [.inr o, .inl i, .inl t] [] M (0, 0) Q
  refine mx_iload_n d_R_lowerEnd_0 rfl ?_
  refine mx_if_eq 13 d_R_lowerEnd_1 (by decide) (fun c1 => ?_) (fun c1 => ?_)
  · skip
    refine mx_aload_n d_R_lowerEnd_13 rfl (by omega) ?_
    refine mx_gl d_R_lowerEnd_14 f_R_31 hR.1 rfl ?_
    refine mx_iload_n d_R_lowerEnd_17 rfl ?_
    refine mx_iald d_R_lowerEnd_18 hR.2.2.2.2 (by omega) (by omega) ?_
    refine mx_ireturn d_R_lowerEnd_19 rfl ?_
    first | (rw [show bf_o t D R i = R i from if_pos (by omega)] at k; exact k) | (rw [show bf_o t D R i = D i from if_neg (by omega)] at k; exact k)
  · skip
    refine mx_aload_n d_R_lowerEnd_4 rfl (by omega) ?_
    refine mx_gl d_R_lowerEnd_5 f_R_28 hR.1 rfl ?_
    refine mx_iload_n d_R_lowerEnd_8 rfl ?_
    refine mx_iald d_R_lowerEnd_9 hR.2.2.2.1 (by omega) (by omega) ?_
    refine mx_goto 19 d_R_lowerEnd_10 (by decide) ?_
    refine mx_ireturn d_R_lowerEnd_19 rfl ?_
    first | (rw [show bf_o t D R i = R i from if_pos (by omega)] at k; exact k) | (rw [show bf_o t D R i = D i from if_neg (by omega)] at k; exact k)
/-- the first cnt rectangles lie on a sheet -/
def bf_ok (cnt : Int) (L U R D : Int → Int) : Prop := ∀ j, 0 ≤ j → j < cnt → 0 ≤ L j ∧ L j < R j ∧ R j ≤ 4096 ∧ 0 ≤ U j ∧ U j < D j ∧ D j ≤ 4096
theorem bf_ob {cnt : Int} {L U R D : Int → Int} (h : bf_ok cnt L U R D) {j : Int} (h0 : 0 ≤ j) (h1 : j < cnt) (t : Int) : 0 ≤ bf_o t L U j ∧ bf_o t L U j < bf_o t R D j ∧ bf_o t R D j ≤ 4096 ∧ 0 ≤ bf_o t U L j ∧ bf_o t U L j < bf_o t D R j ∧ bf_o t D R j ≤ 4096 := by
  have := h j h0 h1
  unfold bf_o
  split <;> omega
theorem bf_mul {a b : Int} (h1 : 0 ≤ a) (h2 : a ≤ 4096) (h3 : 0 ≤ b) (h4 : b ≤ 4096) : 0 ≤ a * b ∧ a * b ≤ 16777216 := by
  refine ⟨Int.mul_nonneg h1 h3, ?_⟩
  have h5 : a * b ≤ 4096 * b := Int.mul_le_mul_of_nonneg_right h2 h3
  omega
theorem bf_height {M : mv_M} {o n : Nat} {cnt : Int} {L U R D : Int → Int} (ho : 2 ≤ o) (hR : bf_R M o n cnt L U R D) (hcn : cnt ≤ n) (hb : bf_ok cnt L U R D) {i t : Int} (h0 : 0 ≤ i) (h1 : i < cnt) (ht : t = 0 ∨ t = 1) {Q : List mv_V → mv_M → Prop} (k : Q [.inl (bf_o t D R i - bf_o t U L i)] M)  : mv_J md_R_height [.inr o, .inl i, .inl t] M Q := by
  refine mv_enter (by decide +kernel) (Nat.le_of_ble_eq_true rfl) ?_
  show mv_W md_R_height 0 [.inr o, .inl i, .inl t] [] M (0, 0) Q
  have hbi := bf_ob hb h0 h1 t
  refine mx_aload_n d_R_height_0 rfl (by omega) ?_
  refine mx_iload_n d_R_height_1 rfl ?_
  refine mx_iload_n d_R_height_2 rfl ?_
  refine mx_cV2 d_R_height_3 c_R_37 hR.1 (by decide) (Nat.le_of_ble_eq_true rfl) ?_
  refine bf_lowerEnd ho hR h0 (by omega) ht ?_
  refine mx_aload_n d_R_height_6 rfl (by omega) ?_
  refine mx_iload_n d_R_height_7 rfl ?_
  refine mx_iload_n d_R_height_8 rfl ?_
  refine mx_cV2 d_R_height_9 c_R_41 hR.1 (by decide) (Nat.le_of_ble_eq_true rfl) ?_
  refine bf_upperEnd ho hR h0 (by omega) ht ?_
  refine mx_isub d_R_height_12 (by unfold mv_r; omega) ?_
  refine mx_ireturn d_R_height_13 rfl ?_
  exact k
theorem bf_gapDownwards {M : mv_M} {o n : Nat} {cnt : Int} {L U R D : Int → Int} (ho : 2 ≤ o) (hR : bf_R M o n cnt L U R D) (hcn : cnt ≤ n) (hb : bf_ok cnt L U R D) {i j t : Int} (h0 : 0 ≤ i) (h1 : i < cnt) (g0 : 0 ≤ j) (g1 : j < cnt) (ht : t = 0 ∨ t = 1) {Q : List mv_V → mv_M → Prop} (k : Q [.inl (max (bf_o t U L i) (bf_o t U L j) - min (bf_o t D R i) (bf_o t D R j))] M)  : mv_J md_R_gapDownwards [.inr o, .inl i, .inl j, .inl t] M Q := by
  refine mv_enter (by decide +kernel) (Nat.le_of_ble_eq_true rfl) ?_
  show mv_W md_R_gapDownwards 0 [.inr o, .inl i, .inl j, .inl t] [] M (0, 0) Q
  have hbi := bf_ob hb h0 h1 t
  have hbj := bf_ob hb g0 g1 t
  refine mx_aload_n d_R_gapDownwards_0 rfl (by omega) ?_
  refine mx_iload_n d_R_gapDownwards_1 rfl ?_
  refine mx_iload_n d_R_gapDownwards_2 rfl ?_
  refine mx_cV2 d_R_gapDownwards_3 c_R_41 hR.1 (by decide) (Nat.le_of_ble_eq_true rfl) ?_
  refine bf_upperEnd ho hR h0 (by omega) ht ?_
  refine mx_aload_n d_R_gapDownwards_6 rfl (by omega) ?_
  refine mx_iload_n d_R_gapDownwards_7 rfl ?_
  refine mx_iload_n d_R_gapDownwards_8 rfl ?_
  refine mx_cV2 d_R_gapDownwards_9 c_R_41 hR.1 (by decide) (Nat.le_of_ble_eq_true rfl) ?_
  refine bf_upperEnd ho hR g0 (by omega) ht ?_
  refine mx_max d_R_gapDownwards_12 c_R_15 (by decide) (Nat.le_of_ble_eq_true rfl) ?_
  refine mx_aload_n d_R_gapDownwards_15 rfl (by omega) ?_
  refine mx_iload_n d_R_gapDownwards_16 rfl ?_
  refine mx_iload_n d_R_gapDownwards_17 rfl ?_
  refine mx_cV2 d_R_gapDownwards_18 c_R_37 hR.1 (by decide) (Nat.le_of_ble_eq_true rfl) ?_
  refine bf_lowerEnd ho hR h0 (by omega) ht ?_
  refine mx_aload_n d_R_gapDownwards_21 rfl (by omega) ?_
  refine mx_iload_n d_R_gapDownwards_22 rfl ?_
  refine mx_iload_n d_R_gapDownwards_23 rfl ?_
  refine mx_cV2 d_R_gapDownwards_24 c_R_37 hR.1 (by decide) (Nat.le_of_ble_eq_true rfl) ?_
  refine bf_lowerEnd ho hR g0 (by omega) ht ?_
  refine mx_min d_R_gapDownwards_27 c_R_34 (by decide) (Nat.le_of_ble_eq_true rfl) ?_
  refine mx_isub d_R_gapDownwards_30 (by unfold mv_r; omega) ?_
  refine mx_ireturn d_R_gapDownwards_31 rfl ?_
  exact k
def bf_nb (t : Int) (L U R D : Int → Int) (i j : Int) : Prop := min (bf_o t D R i - bf_o t U L i) (bf_o t D R j - bf_o t U L j) ≤ 2 * (min (bf_o t D R i) (bf_o t D R j) - max (bf_o t U L i) (bf_o t U L j)) ∧ 2 * (max (bf_o t L U i) (bf_o t L U j) - min (bf_o t R D i) (bf_o t R D j)) ≤ 3 * max (bf_o t D R i - bf_o t U L i) (bf_o t D R j - bf_o t U L j)
def bf_nl (t : Int) (L U R D : Int → Int) (i j : Int) : Prop := max (bf_o t L U i - bf_o t L U j) (-(bf_o t L U i - bf_o t L U j)) ≤ max (bf_o t D R i - bf_o t U L i) (bf_o t D R j - bf_o t U L j) ∧ max (bf_o t U L i) (bf_o t U L j) - min (bf_o t D R i) (bf_o t D R j) ≤ 2 * min (bf_o t D R i - bf_o t U L i) (bf_o t D R j - bf_o t U L j)
theorem bf_areNearAsBoxes {M : mv_M} {o n : Nat} {cnt : Int} {L U R D : Int → Int} (ho : 2 ≤ o) (hR : bf_R M o n cnt L U R D) (hcn : cnt ≤ n) (hb : bf_ok cnt L U R D) {i j t : Int} (h0 : 0 ≤ i) (h1 : i < cnt) (g0 : 0 ≤ j) (g1 : j < cnt) (ht : t = 0 ∨ t = 1) {Q : List mv_V → mv_M → Prop} (k1 : bf_nb t L U R D i j → Q [.inl 1] M) (k0 : ¬ bf_nb t L U R D i j → Q [.inl 0] M)  : mv_J md_R_areNearAsBoxes [.inr o, .inl i, .inl j, .inl t] M Q := by
  refine mv_enter (by decide +kernel) (Nat.le_of_ble_eq_true rfl) ?_
  show mv_W md_R_areNearAsBoxes 0 [.inr o, .inl i, .inl j, .inl t, .inr 0, .inr 0, .inr 0, .inr 0] [] M (0, 0) Q
  have hbi := bf_ob hb h0 h1 t
  have hbj := bf_ob hb g0 g1 t
  refine mx_aload_n d_R_areNearAsBoxes_0 rfl (by omega) ?_
  refine mx_iload_n d_R_areNearAsBoxes_1 rfl ?_
  refine mx_iload_n d_R_areNearAsBoxes_2 rfl ?_
  refine mx_cV2 d_R_areNearAsBoxes_3 c_R_44 hR.1 (by decide) (Nat.le_of_ble_eq_true rfl) ?_
  refine bf_height ho hR hcn hb h0 h1 ht ?_
  refine mx_aload_n d_R_areNearAsBoxes_6 rfl (by omega) ?_
  refine mx_iload_n d_R_areNearAsBoxes_7 rfl ?_
  refine mx_iload_n d_R_areNearAsBoxes_8 rfl ?_
  refine mx_cV2 d_R_areNearAsBoxes_9 c_R_44 hR.1 (by decide) (Nat.le_of_ble_eq_true rfl) ?_
  refine bf_height ho hR hcn hb g0 g1 ht ?_
  refine mx_min d_R_areNearAsBoxes_12 c_R_34 (by decide) (Nat.le_of_ble_eq_true rfl) ?_
  refine mx_istore d_R_areNearAsBoxes_15 (by decide) ?_
  refine mx_aload_n d_R_areNearAsBoxes_17 rfl (by omega) ?_
  refine mx_iload_n d_R_areNearAsBoxes_18 rfl ?_
  refine mx_iload_n d_R_areNearAsBoxes_19 rfl ?_
  refine mx_cV2 d_R_areNearAsBoxes_20 c_R_44 hR.1 (by decide) (Nat.le_of_ble_eq_true rfl) ?_
  refine bf_height ho hR hcn hb h0 h1 ht ?_
  refine mx_aload_n d_R_areNearAsBoxes_23 rfl (by omega) ?_
  refine mx_iload_n d_R_areNearAsBoxes_24 rfl ?_
  refine mx_iload_n d_R_areNearAsBoxes_25 rfl ?_
  refine mx_cV2 d_R_areNearAsBoxes_26 c_R_44 hR.1 (by decide) (Nat.le_of_ble_eq_true rfl) ?_
  refine bf_height ho hR hcn hb g0 g1 ht ?_
  refine mx_max d_R_areNearAsBoxes_29 c_R_15 (by decide) (Nat.le_of_ble_eq_true rfl) ?_
  refine mx_istore d_R_areNearAsBoxes_32 (by decide) ?_
  refine mx_aload_n d_R_areNearAsBoxes_34 rfl (by omega) ?_
  refine mx_iload_n d_R_areNearAsBoxes_35 rfl ?_
  refine mx_iload_n d_R_areNearAsBoxes_36 rfl ?_
  refine mx_cV2 d_R_areNearAsBoxes_37 c_R_47 hR.1 (by decide) (Nat.le_of_ble_eq_true rfl) ?_
  refine bf_leftEnd ho hR h0 (by omega) ht ?_
  refine mx_aload_n d_R_areNearAsBoxes_40 rfl (by omega) ?_
  refine mx_iload_n d_R_areNearAsBoxes_41 rfl ?_
  refine mx_iload_n d_R_areNearAsBoxes_42 rfl ?_
  refine mx_cV2 d_R_areNearAsBoxes_43 c_R_47 hR.1 (by decide) (Nat.le_of_ble_eq_true rfl) ?_
  refine bf_leftEnd ho hR g0 (by omega) ht ?_
  refine mx_max d_R_areNearAsBoxes_46 c_R_15 (by decide) (Nat.le_of_ble_eq_true rfl) ?_
  refine mx_aload_n d_R_areNearAsBoxes_49 rfl (by omega) ?_
  refine mx_iload_n d_R_areNearAsBoxes_50 rfl ?_
  refine mx_iload_n d_R_areNearAsBoxes_51 rfl ?_
  refine mx_cV2 d_R_areNearAsBoxes_52 c_R_50 hR.1 (by decide) (Nat.le_of_ble_eq_true rfl) ?_
  refine bf_rightEnd ho hR h0 (by omega) ht ?_
  refine mx_aload_n d_R_areNearAsBoxes_55 rfl (by omega) ?_
  refine mx_iload_n d_R_areNearAsBoxes_56 rfl ?_
  refine mx_iload_n d_R_areNearAsBoxes_57 rfl ?_
  refine mx_cV2 d_R_areNearAsBoxes_58 c_R_50 hR.1 (by decide) (Nat.le_of_ble_eq_true rfl) ?_
  refine bf_rightEnd ho hR g0 (by omega) ht ?_
  refine mx_min d_R_areNearAsBoxes_61 c_R_34 (by decide) (Nat.le_of_ble_eq_true rfl) ?_
  refine mx_isub d_R_areNearAsBoxes_64 (by unfold mv_r; omega) ?_
  refine mx_istore d_R_areNearAsBoxes_65 (by decide) ?_
  refine mx_aload_n d_R_areNearAsBoxes_67 rfl (by omega) ?_
  refine mx_iload_n d_R_areNearAsBoxes_68 rfl ?_
  refine mx_iload_n d_R_areNearAsBoxes_69 rfl ?_
  refine mx_iload_n d_R_areNearAsBoxes_70 rfl ?_
  refine mx_cV3 d_R_areNearAsBoxes_71 c_R_53 hR.1 (by decide) (Nat.le_of_ble_eq_true rfl) ?_
  refine bf_gapDownwards ho hR hcn hb h0 h1 g0 g1 ht ?_
  refine mx_ineg d_R_areNearAsBoxes_74 (by unfold mv_r; omega) ?_
  refine mx_istore d_R_areNearAsBoxes_75 (by decide) ?_
  refine mx_iconst (2) d_R_areNearAsBoxes_77 (by decide +kernel) (by unfold mv_r; omega) ?_
  refine mx_iload d_R_areNearAsBoxes_78 rfl ?_
  refine mx_imul d_R_areNearAsBoxes_80 (by unfold mv_r; omega) ?_
  refine mx_iload d_R_areNearAsBoxes_81 rfl ?_
  refine mx_icmp_lt 101 d_R_areNearAsBoxes_83 (by decide) (fun c83 => ?_) (fun c83 => ?_)
  · skip
    refine mx_iconst (0) d_R_areNearAsBoxes_101 (by decide +kernel) (by unfold mv_r; omega) ?_
    refine mx_zreturn d_R_areNearAsBoxes_102 rfl (by omega) ?_
    first | exact k1 ⟨by omega, by omega⟩ | exact k0 (fun h => by have q1 := h.1; have q2 := h.2; omega)
  · skip
    refine mx_iconst (2) d_R_areNearAsBoxes_86 (by decide +kernel) (by unfold mv_r; omega) ?_
    refine mx_iload d_R_areNearAsBoxes_87 rfl ?_
    refine mx_imul d_R_areNearAsBoxes_89 (by unfold mv_r; omega) ?_
    refine mx_iconst (3) d_R_areNearAsBoxes_90 (by decide +kernel) (by unfold mv_r; omega) ?_
    refine mx_iload d_R_areNearAsBoxes_91 rfl ?_
    refine mx_imul d_R_areNearAsBoxes_93 (by unfold mv_r; omega) ?_
    refine mx_icmp_gt 101 d_R_areNearAsBoxes_94 (by decide) (fun c94 => ?_) (fun c94 => ?_)
    · skip
      refine mx_iconst (0) d_R_areNearAsBoxes_101 (by decide +kernel) (by unfold mv_r; omega) ?_
      refine mx_zreturn d_R_areNearAsBoxes_102 rfl (by omega) ?_
      first | exact k1 ⟨by omega, by omega⟩ | exact k0 (fun h => by have q1 := h.1; have q2 := h.2; omega)
    · skip
      refine mx_iconst (1) d_R_areNearAsBoxes_97 (by decide +kernel) (by unfold mv_r; omega) ?_
      refine mx_goto 102 d_R_areNearAsBoxes_98 (by decide) ?_
      refine mx_zreturn d_R_areNearAsBoxes_102 rfl (by omega) ?_
      first | exact k1 ⟨by omega, by omega⟩ | exact k0 (fun h => by have q1 := h.1; have q2 := h.2; omega)
theorem bf_areNearAsLines {M : mv_M} {o n : Nat} {cnt : Int} {L U R D : Int → Int} (ho : 2 ≤ o) (hR : bf_R M o n cnt L U R D) (hcn : cnt ≤ n) (hb : bf_ok cnt L U R D) {i j t : Int} (h0 : 0 ≤ i) (h1 : i < cnt) (g0 : 0 ≤ j) (g1 : j < cnt) (ht : t = 0 ∨ t = 1) {Q : List mv_V → mv_M → Prop} (k1 : bf_nl t L U R D i j → Q [.inl 1] M) (k0 : ¬ bf_nl t L U R D i j → Q [.inl 0] M)  : mv_J md_R_areNearAsLines [.inr o, .inl i, .inl j, .inl t] M Q := by
  refine mv_enter (by decide +kernel) (Nat.le_of_ble_eq_true rfl) ?_
  show mv_W md_R_areNearAsLines 0 [.inr o, .inl i, .inl j, .inl t, .inr 0, .inr 0, .inr 0] [] M (0, 0) Q
  have hbi := bf_ob hb h0 h1 t
  have hbj := bf_ob hb g0 g1 t
  refine mx_aload_n d_R_areNearAsLines_0 rfl (by omega) ?_
  refine mx_iload_n d_R_areNearAsLines_1 rfl ?_
  refine mx_iload_n d_R_areNearAsLines_2 rfl ?_
  refine mx_cV2 d_R_areNearAsLines_3 c_R_44 hR.1 (by decide) (Nat.le_of_ble_eq_true rfl) ?_
  refine bf_height ho hR hcn hb h0 h1 ht ?_
  refine mx_aload_n d_R_areNearAsLines_6 rfl (by omega) ?_
  refine mx_iload_n d_R_areNearAsLines_7 rfl ?_
  refine mx_iload_n d_R_areNearAsLines_8 rfl ?_
  refine mx_cV2 d_R_areNearAsLines_9 c_R_44 hR.1 (by decide) (Nat.le_of_ble_eq_true rfl) ?_
  refine bf_height ho hR hcn hb g0 g1 ht ?_
  refine mx_min d_R_areNearAsLines_12 c_R_34 (by decide) (Nat.le_of_ble_eq_true rfl) ?_
  refine mx_istore d_R_areNearAsLines_15 (by decide) ?_
  refine mx_aload_n d_R_areNearAsLines_17 rfl (by omega) ?_
  refine mx_iload_n d_R_areNearAsLines_18 rfl ?_
  refine mx_iload_n d_R_areNearAsLines_19 rfl ?_
  refine mx_cV2 d_R_areNearAsLines_20 c_R_44 hR.1 (by decide) (Nat.le_of_ble_eq_true rfl) ?_
  refine bf_height ho hR hcn hb h0 h1 ht ?_
  refine mx_aload_n d_R_areNearAsLines_23 rfl (by omega) ?_
  refine mx_iload_n d_R_areNearAsLines_24 rfl ?_
  refine mx_iload_n d_R_areNearAsLines_25 rfl ?_
  refine mx_cV2 d_R_areNearAsLines_26 c_R_44 hR.1 (by decide) (Nat.le_of_ble_eq_true rfl) ?_
  refine bf_height ho hR hcn hb g0 g1 ht ?_
  refine mx_max d_R_areNearAsLines_29 c_R_15 (by decide) (Nat.le_of_ble_eq_true rfl) ?_
  refine mx_istore d_R_areNearAsLines_32 (by decide) ?_
  refine mx_aload_n d_R_areNearAsLines_34 rfl (by omega) ?_
  refine mx_iload_n d_R_areNearAsLines_35 rfl ?_
  refine mx_iload_n d_R_areNearAsLines_36 rfl ?_
  refine mx_cV2 d_R_areNearAsLines_37 c_R_47 hR.1 (by decide) (Nat.le_of_ble_eq_true rfl) ?_
  refine bf_leftEnd ho hR h0 (by omega) ht ?_
  refine mx_aload_n d_R_areNearAsLines_40 rfl (by omega) ?_
  refine mx_iload_n d_R_areNearAsLines_41 rfl ?_
  refine mx_iload_n d_R_areNearAsLines_42 rfl ?_
  refine mx_cV2 d_R_areNearAsLines_43 c_R_47 hR.1 (by decide) (Nat.le_of_ble_eq_true rfl) ?_
  refine bf_leftEnd ho hR g0 (by omega) ht ?_
  refine mx_isub d_R_areNearAsLines_46 (by unfold mv_r; omega) ?_
  refine mx_abs d_R_areNearAsLines_47 c_R_57 (by decide) (Nat.le_of_ble_eq_true rfl) (by unfold mv_r; omega) ?_
  refine mx_istore d_R_areNearAsLines_50 (by decide) ?_
  refine mx_iload d_R_areNearAsLines_52 rfl ?_
  refine mx_iload d_R_areNearAsLines_54 rfl ?_
  refine mx_icmp_gt 77 d_R_areNearAsLines_56 (by decide) (fun c56 => ?_) (fun c56 => ?_)
  · skip
    refine mx_iconst (0) d_R_areNearAsLines_77 (by decide +kernel) (by unfold mv_r; omega) ?_
    refine mx_zreturn d_R_areNearAsLines_78 rfl (by omega) ?_
    first | exact k1 ⟨by omega, by omega⟩ | exact k0 (fun h => by have q1 := h.1; have q2 := h.2; omega)
  · skip
    refine mx_aload_n d_R_areNearAsLines_59 rfl (by omega) ?_
    refine mx_iload_n d_R_areNearAsLines_60 rfl ?_
    refine mx_iload_n d_R_areNearAsLines_61 rfl ?_
    refine mx_iload_n d_R_areNearAsLines_62 rfl ?_
    refine mx_cV3 d_R_areNearAsLines_63 c_R_53 hR.1 (by decide) (Nat.le_of_ble_eq_true rfl) ?_
    refine bf_gapDownwards ho hR hcn hb h0 h1 g0 g1 ht ?_
    refine mx_iconst (2) d_R_areNearAsLines_66 (by decide +kernel) (by unfold mv_r; omega) ?_
    refine mx_iload d_R_areNearAsLines_67 rfl ?_
    refine mx_imul d_R_areNearAsLines_69 (by unfold mv_r; omega) ?_
    refine mx_icmp_gt 77 d_R_areNearAsLines_70 (by decide) (fun c70 => ?_) (fun c70 => ?_)
    · skip
      refine mx_iconst (0) d_R_areNearAsLines_77 (by decide +kernel) (by unfold mv_r; omega) ?_
      refine mx_zreturn d_R_areNearAsLines_78 rfl (by omega) ?_
      first | exact k1 ⟨by omega, by omega⟩ | exact k0 (fun h => by have q1 := h.1; have q2 := h.2; omega)
    · skip
      refine mx_iconst (1) d_R_areNearAsLines_73 (by decide +kernel) (by unfold mv_r; omega) ?_
      refine mx_goto 78 d_R_areNearAsLines_74 (by decide) ?_
      refine mx_zreturn d_R_areNearAsLines_78 rfl (by omega) ?_
      first | exact k1 ⟨by omega, by omega⟩ | exact k0 (fun h => by have q1 := h.1; have q2 := h.2; omega)
theorem bf_area {M : mv_M} {o n : Nat} {cnt : Int} {L U R D : Int → Int} (ho : 2 ≤ o) (hR : bf_R M o n cnt L U R D) (hcn : cnt ≤ n) (hb : bf_ok cnt L U R D) {i : Int} (h0 : 0 ≤ i) (h1 : i < cnt) {Q : List mv_V → mv_M → Prop} (k : Q [.inl ((R i - L i) * (D i - U i))] M)  : mv_J md_R_area [.inr o, .inl i] M Q := by
  refine mv_enter (by decide +kernel) (Nat.le_of_ble_eq_true rfl) ?_
  show mv_W md_R_area 0 [.inr o, .inl i] [] M (0, 0) Q
  have hbi := hb i h0 h1
  refine mx_aload_n d_R_area_0 rfl (by omega) ?_
  refine mx_gl d_R_area_1 f_R_28 hR.1 rfl ?_
  refine mx_iload_n d_R_area_4 rfl ?_
  refine mx_iald d_R_area_5 hR.2.2.2.1 (by omega) (by omega) ?_
  refine mx_aload_n d_R_area_6 rfl (by omega) ?_
  refine mx_gl d_R_area_7 f_R_21 hR.1 rfl ?_
  refine mx_iload_n d_R_area_10 rfl ?_
  refine mx_iald d_R_area_11 hR.2.1 (by omega) (by omega) ?_
  refine mx_isub d_R_area_12 (by unfold mv_r; omega) ?_
  refine mx_aload_n d_R_area_13 rfl (by omega) ?_
  refine mx_gl d_R_area_14 f_R_31 hR.1 rfl ?_
  refine mx_iload_n d_R_area_17 rfl ?_
  refine mx_iald d_R_area_18 hR.2.2.2.2 (by omega) (by omega) ?_
  refine mx_aload_n d_R_area_19 rfl (by omega) ?_
  refine mx_gl d_R_area_20 f_R_25 hR.1 rfl ?_
  refine mx_iload_n d_R_area_23 rfl ?_
  refine mx_iald d_R_area_24 hR.2.2.1 (by omega) (by omega) ?_
  refine mx_isub d_R_area_25 (by unfold mv_r; omega) ?_
  refine mx_imul d_R_area_26 (by have q := bf_mul (a := R i - L i) (b := D i - U i) (by omega) (by omega) (by omega) (by omega); unfold mv_r; omega) ?_
  refine mx_ireturn d_R_area_27 rfl ?_
  exact k
theorem bf_side {M : mv_M} {o n : Nat} {cnt : Int} {L U R D : Int → Int} (ho : 2 ≤ o) (hR : bf_R M o n cnt L U R D) (hcn : cnt ≤ n) (hb : bf_ok cnt L U R D) {i w : Int} (h0 : 0 ≤ i) (h1 : i < cnt) {Q : List mv_V → mv_M → Prop} (k : Q [.inl (if w = 0 then L i else if w = 1 then U i else if w = 2 then R i - L i else D i - U i)] M)  : mv_J md_R_side [.inr o, .inl i, .inl w] M Q := by
  refine mv_enter (by decide +kernel) (Nat.le_of_ble_eq_true rfl) ?_
  show mv_W md_R_side 0 [.inr o, .inl i, .inl w] [] M (0, 0) Q
  have hbi := hb i h0 h1
  refine mx_iload_n d_R_side_0 rfl ?_
  rcases (show w = 0 ∨ w = 1 ∨ w = 2 ∨ (w < 0 ∨ 2 < w) by omega) with rfl | rfl | rfl | hsw
  · skip
    refine mx_tabIn 28 d_R_side_1 (by omega) (by omega) rfl (by decide) ?_
    refine mx_aload_n d_R_side_28 rfl (by omega) ?_
    refine mx_gl d_R_side_29 f_R_21 hR.1 rfl ?_
    refine mx_iload_n d_R_side_32 rfl ?_
    refine mx_iald d_R_side_33 hR.2.1 (by omega) (by omega) ?_
    refine mx_ireturn d_R_side_34 rfl ?_
    exact k
  · skip
    refine mx_tabIn 35 d_R_side_1 (by omega) (by omega) rfl (by decide) ?_
    refine mx_aload_n d_R_side_35 rfl (by omega) ?_
    refine mx_gl d_R_side_36 f_R_25 hR.1 rfl ?_
    refine mx_iload_n d_R_side_39 rfl ?_
    refine mx_iald d_R_side_40 hR.2.2.1 (by omega) (by omega) ?_
    refine mx_ireturn d_R_side_41 rfl ?_
    exact k
  · skip
    refine mx_tabIn 42 d_R_side_1 (by omega) (by omega) rfl (by decide) ?_
    refine mx_aload_n d_R_side_42 rfl (by omega) ?_
    refine mx_gl d_R_side_43 f_R_28 hR.1 rfl ?_
    refine mx_iload_n d_R_side_46 rfl ?_
    refine mx_iald d_R_side_47 hR.2.2.2.1 (by omega) (by omega) ?_
    refine mx_aload_n d_R_side_48 rfl (by omega) ?_
    refine mx_gl d_R_side_49 f_R_21 hR.1 rfl ?_
    refine mx_iload_n d_R_side_52 rfl ?_
    refine mx_iald d_R_side_53 hR.2.1 (by omega) (by omega) ?_
    refine mx_isub d_R_side_54 (by unfold mv_r; omega) ?_
    refine mx_ireturn d_R_side_55 rfl ?_
    exact k
  · skip
    refine mx_tabOut 56 d_R_side_1 hsw (by decide) ?_
    rw [if_neg (by omega), if_neg (by omega), if_neg (by omega)] at k
    refine mx_aload_n d_R_side_56 rfl (by omega) ?_
    refine mx_gl d_R_side_57 f_R_31 hR.1 rfl ?_
    refine mx_iload_n d_R_side_60 rfl ?_
    refine mx_iald d_R_side_61 hR.2.2.2.2 (by omega) (by omega) ?_
    refine mx_aload_n d_R_side_62 rfl (by omega) ?_
    refine mx_gl d_R_side_63 f_R_25 hR.1 rfl ?_
    refine mx_iload_n d_R_side_66 rfl ?_
    refine mx_iald d_R_side_67 hR.2.2.1 (by omega) (by omega) ?_
    refine mx_isub d_R_side_68 (by unfold mv_r; omega) ?_
    refine mx_ireturn d_R_side_69 rfl ?_
    exact k
theorem bf_encloses {M : mv_M} {o n : Nat} {cnt : Int} {L U R D : Int → Int} (ho : 2 ≤ o) (hR : bf_R M o n cnt L U R D) {o2 n2 : Nat} {cnt2 : Int} {L2 U2 R2 D2 : Int → Int} (ho2 : 2 ≤ o2) (hR2 : bf_R M o2 n2 cnt2 L2 U2 R2 D2) {i j : Int} (h0 : 0 ≤ i) (h1 : i < n) (g0 : 0 ≤ j) (g1 : j < n2) {Q : List mv_V → mv_M → Prop} (k1 : (L i ≤ L2 j ∧ R2 j ≤ R i ∧ U i ≤ U2 j ∧ D2 j ≤ D i) → Q [.inl 1] M) (k0 : ¬ (L i ≤ L2 j ∧ R2 j ≤ R i ∧ U i ≤ U2 j ∧ D2 j ≤ D i) → Q [.inl 0] M)  : mv_J md_R_encloses [.inr o, .inl i, .inr o2, .inl j] M Q := by
  refine mv_enter (by decide +kernel) (Nat.le_of_ble_eq_true rfl) ?_
  show mv_W md_R_encloses 0 [.inr o, .inl i, .inr o2, .inl j] [] M (0, 0) Q
  refine mx_aload_n d_R_encloses_0 rfl (by omega) ?_
  refine mx_gl d_R_encloses_1 f_R_21 hR.1 rfl ?_
  refine mx_iload_n d_R_encloses_4 rfl ?_
  refine mx_iald d_R_encloses_5 hR.2.1 (by omega) (by omega) ?_
  refine mx_aload_n d_R_encloses_6 rfl (by omega) ?_
  refine mx_gl d_R_encloses_7 f_R_21 hR2.1 rfl ?_
  refine mx_iload_n d_R_encloses_10 rfl ?_
  refine mx_iald d_R_encloses_11 hR2.2.1 (by omega) (by omega) ?_
  refine mx_icmp_gt 64 d_R_encloses_12 (by decide) (fun c12 => ?_) (fun c12 => ?_)
  · skip
    refine mx_iconst (0) d_R_encloses_64 (by decide +kernel) (by unfold mv_r; omega) ?_
    refine mx_zreturn d_R_encloses_65 rfl (by omega) ?_
    first | exact k1 (by omega) | exact k0 (by omega)
  · skip
    refine mx_aload_n d_R_encloses_15 rfl (by omega) ?_
    refine mx_gl d_R_encloses_16 f_R_28 hR.1 rfl ?_
    refine mx_iload_n d_R_encloses_19 rfl ?_
    refine mx_iald d_R_encloses_20 hR.2.2.2.1 (by omega) (by omega) ?_
    refine mx_aload_n d_R_encloses_21 rfl (by omega) ?_
    refine mx_gl d_R_encloses_22 f_R_28 hR2.1 rfl ?_
    refine mx_iload_n d_R_encloses_25 rfl ?_
    refine mx_iald d_R_encloses_26 hR2.2.2.2.1 (by omega) (by omega) ?_
    refine mx_icmp_lt 64 d_R_encloses_27 (by decide) (fun c27 => ?_) (fun c27 => ?_)
    · skip
      refine mx_iconst (0) d_R_encloses_64 (by decide +kernel) (by unfold mv_r; omega) ?_
      refine mx_zreturn d_R_encloses_65 rfl (by omega) ?_
      first | exact k1 (by omega) | exact k0 (by omega)
    · skip
      refine mx_aload_n d_R_encloses_30 rfl (by omega) ?_
      refine mx_gl d_R_encloses_31 f_R_25 hR.1 rfl ?_
      refine mx_iload_n d_R_encloses_34 rfl ?_
      refine mx_iald d_R_encloses_35 hR.2.2.1 (by omega) (by omega) ?_
      refine mx_aload_n d_R_encloses_36 rfl (by omega) ?_
      refine mx_gl d_R_encloses_37 f_R_25 hR2.1 rfl ?_
      refine mx_iload_n d_R_encloses_40 rfl ?_
      refine mx_iald d_R_encloses_41 hR2.2.2.1 (by omega) (by omega) ?_
      refine mx_icmp_gt 64 d_R_encloses_42 (by decide) (fun c42 => ?_) (fun c42 => ?_)
      · skip
        refine mx_iconst (0) d_R_encloses_64 (by decide +kernel) (by unfold mv_r; omega) ?_
        refine mx_zreturn d_R_encloses_65 rfl (by omega) ?_
        first | exact k1 (by omega) | exact k0 (by omega)
      · skip
        refine mx_aload_n d_R_encloses_45 rfl (by omega) ?_
        refine mx_gl d_R_encloses_46 f_R_31 hR.1 rfl ?_
        refine mx_iload_n d_R_encloses_49 rfl ?_
        refine mx_iald d_R_encloses_50 hR.2.2.2.2 (by omega) (by omega) ?_
        refine mx_aload_n d_R_encloses_51 rfl (by omega) ?_
        refine mx_gl d_R_encloses_52 f_R_31 hR2.1 rfl ?_
        refine mx_iload_n d_R_encloses_55 rfl ?_
        refine mx_iald d_R_encloses_56 hR2.2.2.2.2 (by omega) (by omega) ?_
        refine mx_icmp_lt 64 d_R_encloses_57 (by decide) (fun c57 => ?_) (fun c57 => ?_)
        · skip
          refine mx_iconst (0) d_R_encloses_64 (by decide +kernel) (by unfold mv_r; omega) ?_
          refine mx_zreturn d_R_encloses_65 rfl (by omega) ?_
          first | exact k1 (by omega) | exact k0 (by omega)
        · skip
          refine mx_iconst (1) d_R_encloses_60 (by decide +kernel) (by unfold mv_r; omega) ?_
          refine mx_goto 65 d_R_encloses_61 (by decide) ?_
          refine mx_zreturn d_R_encloses_65 rfl (by omega) ?_
          first | exact k1 (by omega) | exact k0 (by omega)
def bf_fr (M M' : mv_M) (a b : Nat) : Prop := ∀ j, (j < a ∨ b ≤ j) → M'.2 j = M.2 j
theorem bf_R.fr {M M' : mv_M} {o n : Nat} {cnt : Int} {L U R D : Int → Int} (h : bf_R M o n cnt L U R D) {a b : Nat} (hf : bf_fr M M' a b) (hd : o + 5 ≤ a ∨ b ≤ o) : bf_R M' o n cnt L U R D := by
  unfold bf_R
  rw [hf o (by omega), hf (o + 1) (by omega), hf (o + 2) (by omega), hf (o + 3) (by omega), hf (o + 4) (by omega)]
  exact h
theorem bf_add {M : mv_M} {o n : Nat} {cnt : Int} {L U R D : Int → Int} (ho : 2 ≤ o) (hR : bf_R M o n cnt L U R D) (hn64 : n ≤ 64) (hc0 : 0 ≤ cnt) {x1 x2 x3 x4 : Int} {Q : List mv_V → mv_M → Prop} (k1 : (n : Int) ≤ cnt → Q [.inl (-14)] M) (k2 : ∀ M', cnt < n → bf_fr M M' o (o + 5) → bf_R M' o n (cnt + 1) (mv_s L cnt x1) (mv_s U cnt x2) (mv_s R cnt x3) (mv_s D cnt x4) → Q [.inl cnt] M')  : mv_J md_R_add [.inr o, .inl x1, .inl x2, .inl x3, .inl x4] M Q := by
  refine mv_enter (by decide +kernel) (Nat.le_of_ble_eq_true rfl) ?_
  show mv_W md_R_add 0 [.inr o, .inl x1, .inl x2, .inl x3, .inl x4, .inr 0] [] M (0, 0) Q
  refine mx_aload_n d_R_add_0 rfl (by omega) ?_
  refine mx_gl d_R_add_1 f_R_9 hR.1 rfl ?_
  refine mx_aload_n d_R_add_4 rfl (by omega) ?_
  refine mx_gl d_R_add_5 f_R_21 hR.1 rfl ?_
  refine mx_alen d_R_add_8 hR.2.1 ?_
  refine mx_icmp_lt 15 d_R_add_9 (by decide) (fun c9 => ?_) (fun c9 => ?_)
  · skip
    refine mx_aload_n d_R_add_15 rfl (by omega) ?_
    refine mx_gl d_R_add_16 f_R_9 hR.1 rfl ?_
    refine mx_istore d_R_add_19 (by decide) ?_
    refine mx_aload_n d_R_add_21 rfl (by omega) ?_
    refine mx_gl d_R_add_22 f_R_21 hR.1 rfl ?_
    refine mx_iload d_R_add_25 rfl ?_
    refine mx_iload_n d_R_add_27 rfl ?_
    refine mx_iast d_R_add_28 hR.2.1 (by omega) (by omega) (by omega) ?_
    refine mx_aload_n d_R_add_29 rfl (by omega) ?_
    refine mx_gl d_R_add_30 f_R_25 (by rw [mv_pn (by omega)]; exact hR.1) rfl ?_
    refine mx_iload d_R_add_33 rfl ?_
    refine mx_iload_n d_R_add_35 rfl ?_
    refine mx_iast d_R_add_36 (by rw [mv_pn (by omega)]; exact hR.2.2.1) (by omega) (by omega) (by omega) ?_
    refine mx_aload_n d_R_add_37 rfl (by omega) ?_
    refine mx_gl d_R_add_38 f_R_28 (by rw [mv_pn (by omega), mv_pn (by omega)]; exact hR.1) rfl ?_
    refine mx_iload d_R_add_41 rfl ?_
    refine mx_iload_n d_R_add_43 rfl ?_
    refine mx_iast d_R_add_44 (by rw [mv_pn (by omega), mv_pn (by omega)]; exact hR.2.2.2.1) (by omega) (by omega) (by omega) ?_
    refine mx_aload_n d_R_add_45 rfl (by omega) ?_
    refine mx_gl d_R_add_46 f_R_31 (by rw [mv_pn (by omega), mv_pn (by omega), mv_pn (by omega)]; exact hR.1) rfl ?_
    refine mx_iload d_R_add_49 rfl ?_
    refine mx_iload d_R_add_51 rfl ?_
    refine mx_iast d_R_add_53 (by rw [mv_pn (by omega), mv_pn (by omega), mv_pn (by omega)]; exact hR.2.2.2.2) (by omega) (by omega) (by omega) ?_
    refine mx_aload_n d_R_add_54 rfl (by omega) ?_
    refine mx_dup d_R_add_55 ?_
    refine mx_gl d_R_add_56 f_R_9 (by rw [mv_pn (by omega), mv_pn (by omega), mv_pn (by omega), mv_pn (by omega)]; exact hR.1) rfl ?_
    refine mx_iconst (1) d_R_add_59 (by decide +kernel) (by unfold mv_r; omega) ?_
    refine mx_iadd d_R_add_60 (by unfold mv_r; omega) ?_
    refine mx_pl d_R_add_61 g_R_9 (by rw [mv_pn (by omega), mv_pn (by omega), mv_pn (by omega), mv_pn (by omega)]; exact hR.1) (mv_Vi _) (Nat.le_of_ble_eq_true rfl) ?_
    refine mx_iload d_R_add_64 rfl ?_
    refine mx_ireturn d_R_add_66 rfl ?_
    exact k2 _ (by omega)  (fun j hj => by rw [mv_pn (by omega), mv_pn (by omega), mv_pn (by omega), mv_pn (by omega), mv_pn (by omega)]) ⟨mv_ps, by rw [mv_pn (by omega), mv_pn (by omega), mv_pn (by omega), mv_pn (by omega), mv_ps], by rw [mv_pn (by omega), mv_pn (by omega), mv_pn (by omega), mv_ps], by rw [mv_pn (by omega), mv_pn (by omega), mv_ps], by rw [mv_pn (by omega), mv_ps]⟩
  · skip
    refine mx_bipush (-14) d_R_add_12 (by decide +kernel) (by unfold mv_r; omega) ?_
    refine mx_ireturn d_R_add_14 rfl ?_
    exact k1 (by omega)
theorem bf_stretchOver {M : mv_M} {o n : Nat} {cnt : Int} {L U R D : Int → Int} (ho : 2 ≤ o) (hR : bf_R M o n cnt L U R D) {o2 n2 : Nat} {cnt2 : Int} {L2 U2 R2 D2 : Int → Int} (ho2 : 2 ≤ o2) (hR2 : bf_R M o2 n2 cnt2 L2 U2 R2 D2) (hdj : o + 5 ≤ o2 ∨ o2 + 5 ≤ o) {i j : Int} (h0 : 0 ≤ i) (h1 : i < n) (g0 : 0 ≤ j) (g1 : j < n2) {Q : List mv_V → mv_M → Prop} (k : ∀ M', bf_fr M M' o (o + 5) → bf_R M' o n cnt (mv_s L i (min (L i) (L2 j))) (mv_s U i (min (U i) (U2 j))) (mv_s R i (max (R i) (R2 j))) (mv_s D i (max (D i) (D2 j))) → Q [] M')  : mv_J md_R_stretchOver [.inr o, .inl i, .inr o2, .inl j] M Q := by
  refine mv_enter (by decide +kernel) (Nat.le_of_ble_eq_true rfl) ?_
  show mv_W md_R_stretchOver 0 [.inr o, .inl i, .inr o2, .inl j] [] M (0, 0) Q
  refine mx_aload_n d_R_stretchOver_0 rfl (by omega) ?_
  refine mx_gl d_R_stretchOver_1 f_R_21 hR.1 rfl ?_
  refine mx_iload_n d_R_stretchOver_4 rfl ?_
  refine mx_aload_n d_R_stretchOver_5 rfl (by omega) ?_
  refine mx_gl d_R_stretchOver_6 f_R_21 hR.1 rfl ?_
  refine mx_iload_n d_R_stretchOver_9 rfl ?_
  refine mx_iald d_R_stretchOver_10 hR.2.1 (by omega) (by omega) ?_
  refine mx_aload_n d_R_stretchOver_11 rfl (by omega) ?_
  refine mx_gl d_R_stretchOver_12 f_R_21 hR2.1 rfl ?_
  refine mx_iload_n d_R_stretchOver_15 rfl ?_
  refine mx_iald d_R_stretchOver_16 hR2.2.1 (by omega) (by omega) ?_
  refine mx_min d_R_stretchOver_17 c_R_34 (by decide) (Nat.le_of_ble_eq_true rfl) ?_
  refine mx_iast d_R_stretchOver_20 hR.2.1 (by omega) (by omega) (by omega) ?_
  refine mx_aload_n d_R_stretchOver_21 rfl (by omega) ?_
  refine mx_gl d_R_stretchOver_22 f_R_25 (by rw [mv_pn (by omega)]; exact hR.1) rfl ?_
  refine mx_iload_n d_R_stretchOver_25 rfl ?_
  refine mx_aload_n d_R_stretchOver_26 rfl (by omega) ?_
  refine mx_gl d_R_stretchOver_27 f_R_25 (by rw [mv_pn (by omega)]; exact hR.1) rfl ?_
  refine mx_iload_n d_R_stretchOver_30 rfl ?_
  refine mx_iald d_R_stretchOver_31 (by rw [mv_pn (by omega)]; exact hR.2.2.1) (by omega) (by omega) ?_
  refine mx_aload_n d_R_stretchOver_32 rfl (by omega) ?_
  refine mx_gl d_R_stretchOver_33 f_R_25 (by rw [mv_pn (by omega)]; exact hR2.1) rfl ?_
  refine mx_iload_n d_R_stretchOver_36 rfl ?_
  refine mx_iald d_R_stretchOver_37 (by rw [mv_pn (by omega)]; exact hR2.2.2.1) (by omega) (by omega) ?_
  refine mx_min d_R_stretchOver_38 c_R_34 (by decide) (Nat.le_of_ble_eq_true rfl) ?_
  refine mx_iast d_R_stretchOver_41 (by rw [mv_pn (by omega)]; exact hR.2.2.1) (by omega) (by omega) (by omega) ?_
  refine mx_aload_n d_R_stretchOver_42 rfl (by omega) ?_
  refine mx_gl d_R_stretchOver_43 f_R_28 (by rw [mv_pn (by omega), mv_pn (by omega)]; exact hR.1) rfl ?_
  refine mx_iload_n d_R_stretchOver_46 rfl ?_
  refine mx_aload_n d_R_stretchOver_47 rfl (by omega) ?_
  refine mx_gl d_R_stretchOver_48 f_R_28 (by rw [mv_pn (by omega), mv_pn (by omega)]; exact hR.1) rfl ?_
  refine mx_iload_n d_R_stretchOver_51 rfl ?_
  refine mx_iald d_R_stretchOver_52 (by rw [mv_pn (by omega), mv_pn (by omega)]; exact hR.2.2.2.1) (by omega) (by omega) ?_
  refine mx_aload_n d_R_stretchOver_53 rfl (by omega) ?_
  refine mx_gl d_R_stretchOver_54 f_R_28 (by rw [mv_pn (by omega), mv_pn (by omega)]; exact hR2.1) rfl ?_
  refine mx_iload_n d_R_stretchOver_57 rfl ?_
  refine mx_iald d_R_stretchOver_58 (by rw [mv_pn (by omega), mv_pn (by omega)]; exact hR2.2.2.2.1) (by omega) (by omega) ?_
  refine mx_max d_R_stretchOver_59 c_R_15 (by decide) (Nat.le_of_ble_eq_true rfl) ?_
  refine mx_iast d_R_stretchOver_62 (by rw [mv_pn (by omega), mv_pn (by omega)]; exact hR.2.2.2.1) (by omega) (by omega) (by omega) ?_
  refine mx_aload_n d_R_stretchOver_63 rfl (by omega) ?_
  refine mx_gl d_R_stretchOver_64 f_R_31 (by rw [mv_pn (by omega), mv_pn (by omega), mv_pn (by omega)]; exact hR.1) rfl ?_
  refine mx_iload_n d_R_stretchOver_67 rfl ?_
  refine mx_aload_n d_R_stretchOver_68 rfl (by omega) ?_
  refine mx_gl d_R_stretchOver_69 f_R_31 (by rw [mv_pn (by omega), mv_pn (by omega), mv_pn (by omega)]; exact hR.1) rfl ?_
  refine mx_iload_n d_R_stretchOver_72 rfl ?_
  refine mx_iald d_R_stretchOver_73 (by rw [mv_pn (by omega), mv_pn (by omega), mv_pn (by omega)]; exact hR.2.2.2.2) (by omega) (by omega) ?_
  refine mx_aload_n d_R_stretchOver_74 rfl (by omega) ?_
  refine mx_gl d_R_stretchOver_75 f_R_31 (by rw [mv_pn (by omega), mv_pn (by omega), mv_pn (by omega)]; exact hR2.1) rfl ?_
  refine mx_iload_n d_R_stretchOver_78 rfl ?_
  refine mx_iald d_R_stretchOver_79 (by rw [mv_pn (by omega), mv_pn (by omega), mv_pn (by omega)]; exact hR2.2.2.2.2) (by omega) (by omega) ?_
  refine mx_max d_R_stretchOver_80 c_R_15 (by decide) (Nat.le_of_ble_eq_true rfl) ?_
  refine mx_iast d_R_stretchOver_83 (by rw [mv_pn (by omega), mv_pn (by omega), mv_pn (by omega)]; exact hR.2.2.2.2) (by omega) (by omega) (by omega) ?_
  refine mx_return d_R_stretchOver_84 rfl ?_
  exact k _ (fun j hj => by rw [mv_pn (by omega), mv_pn (by omega), mv_pn (by omega), mv_pn (by omega)]) ⟨by rw [mv_pn (by omega), mv_pn (by omega), mv_pn (by omega), mv_pn (by omega)]; exact hR.1, by rw [mv_pn (by omega), mv_pn (by omega), mv_pn (by omega), mv_ps], by rw [mv_pn (by omega), mv_pn (by omega), mv_ps], by rw [mv_pn (by omega), mv_ps], mv_ps⟩
end
section
/-! the class: sets -/
def bf_S (M : mv_M) (o : Nat) (mem cnt : Int) (f : Int → Int) : Prop := M.2 o = .inr (ki_S, mv_l [.inr (o + 1), .inl mem, .inl cnt]) ∧ M.2 (o + 1) = .inl (64, f)
theorem bf_S.fr {M M' : mv_M} {o : Nat} {mem cnt : Int} {f : Int → Int} (h : bf_S M o mem cnt f) {a b : Nat} (hf : bf_fr M M' a b) (hd : o + 2 ≤ a ∨ b ≤ o) : bf_S M' o mem cnt f := by
  unfold bf_S
  rw [hf o (by omega), hf (o + 1) (by omega)]
  exact h
theorem bf_fr.refl {M : mv_M} {a b : Nat} : bf_fr M M a b := fun _ _ => rfl
theorem bf_fr.trans {M M' M2 : mv_M} {a b : Nat} (h : bf_fr M M' a b) (h2 : bf_fr M' M2 a b) : bf_fr M M2 a b := fun j hj => (h2 j hj).trans (h j hj)
theorem bf_fr.up {M M' : mv_M} {a b a' b' : Nat} (h : bf_fr M M' a b) (h1 : a' ≤ a) (h2 : b ≤ b') : bf_fr M M' a' b' := fun j hj => h j (by omega)
theorem bf_fr.put {M M' : mv_M} {a b k : Nat} {c : mv_C} (h : bf_fr M M' a b) (h1 : a ≤ k) (h2 : k < b) : bf_fr M (mv_p M' k c) a b := fun j hj => by rw [mv_pn (by omega)]; exact h j hj
theorem bf_scatter_l {Q : List mv_V → mv_M → Prop} {M0 : mv_M} {o : Nat} {n : Int} (ho : 2 ≤ o) (hn : n ≤ 64) (k : ∀ M' f', bf_fr M0 M' o (o + 2) → bf_S M' o n n f' → (∀ j, 0 ≤ j → j < n → f' j = j) → Q [] M') : ∀ (d : Nat) (i : Int) (M : mv_M) (f : Int → Int), n - i < d → 0 ≤ i → i ≤ n → bf_fr M0 M o (o + 2) → bf_S M o n n f → (∀ j, 0 ≤ j → j < i → f j = j) → mv_W md_S_scatter 27 [.inr o, .inl n, .inl i] [] M (0, 0) Q := by
  intro d
  induction d with
  | zero =>
    intro i M f hd h0 hi hfr hS hf
    exfalso; omega
  | succ d ih =>
    intro i M f hd h0 hi hfr hS hf
    refine mx_iload_n d_S_scatter_27 rfl ?_
    refine mx_aload_n d_S_scatter_28 rfl (by omega) ?_
    refine mx_gl d_S_scatter_29 f_S_15 hS.1 rfl ?_
    refine mx_icmp_ge 48 d_S_scatter_32 (by decide) (fun c32 => ?_) (fun c32 => ?_)
    · skip
      refine mx_return d_S_scatter_48 rfl ?_
      exact k M f hfr hS (fun j g0 g1 => hf j g0 (by omega))
    · skip
      refine mx_aload_n d_S_scatter_35 rfl (by omega) ?_
      refine mx_gl d_S_scatter_36 f_S_9 hS.1 rfl ?_
      refine mx_iload_n d_S_scatter_39 rfl ?_
      refine mx_iload_n d_S_scatter_40 rfl ?_
      refine mx_iast d_S_scatter_41 hS.2 (by omega) (by omega) (by omega) ?_
      refine mx_iinc d_S_scatter_42 rfl (by unfold mv_r; omega) ?_
      refine mx_goto 27 d_S_scatter_45 (by decide) ?_
      exact ih (i + 1) _ _ (by omega) (by omega) (by omega) (hfr.put (by omega) (by omega)) ⟨by rw [mv_pn (by omega)]; exact hS.1, mv_ps⟩ (fun j g0 g1 => by
        by_cases hj : j = i
        · rw [hj, mv_ss]
        · rw [mv_sn hj]; exact hf j g0 (by omega))
theorem bf_scatter {Q : List mv_V → mv_M → Prop} {M : mv_M} {o : Nat} {mem cnt n : Int} {f : Int → Int} (ho : 2 ≤ o) (hS : bf_S M o mem cnt f) (hn0 : 0 ≤ n) (hn : n ≤ 64) (k : ∀ M' f', bf_fr M M' o (o + 2) → bf_S M' o n n f' → (∀ j, 0 ≤ j → j < n → f' j = j) → Q [] M')  : mv_J md_S_scatter [.inr o, .inl n] M Q := by
  refine mv_enter (by decide +kernel) (Nat.le_of_ble_eq_true rfl) ?_
  show mv_W md_S_scatter 0 [.inr o, .inl n, .inr 0] [] M (0, 0) Q
  refine mx_aload_n d_S_scatter_0 rfl (by omega) ?_
  refine mx_iconst (0) d_S_scatter_1 (by decide +kernel) (by unfold mv_r; omega) ?_
  refine mx_aload_n d_S_scatter_2 rfl (by omega) ?_
  refine mx_gl d_S_scatter_3 f_S_9 hS.1 rfl ?_
  refine mx_alen d_S_scatter_6 hS.2 ?_
  refine mx_iload_n d_S_scatter_7 rfl ?_
  refine mx_min d_S_scatter_8 c_S_22 (by decide) (Nat.le_of_ble_eq_true rfl) ?_
  refine mx_max d_S_scatter_11 c_S_28 (by decide) (Nat.le_of_ble_eq_true rfl) ?_
  rw [show max (0 : Int) (min ((64 : Nat) : Int) n) = n by omega]
  refine mx_pl d_S_scatter_14 g_S_15 hS.1 (mv_Vi _) (Nat.le_of_ble_eq_true rfl) ?_
  refine mx_aload_n d_S_scatter_17 rfl (by omega) ?_
  refine mx_aload_n d_S_scatter_18 rfl (by omega) ?_
  refine mx_gl d_S_scatter_19 f_S_15 (by rw [mv_ps]) rfl ?_
  refine mx_pl d_S_scatter_22 g_S_19 (by rw [mv_ps]) (mv_Vi _) (Nat.le_of_ble_eq_true rfl) ?_
  refine mx_iconst (0) d_S_scatter_25 (by decide +kernel) (by unfold mv_r; omega) ?_
  refine mx_istore_n d_S_scatter_26 (by decide) ?_
  exact bf_scatter_l ho hn k (n.toNat + 1) 0 _ f (by omega) (by omega) (by omega) ((bf_fr.refl.put (by omega) (by omega)).put (by omega) (by omega)) ⟨mv_ps, by rw [mv_pn (by omega), mv_pn (by omega)]; exact hS.2⟩ (fun j g0 g1 => by omega)
theorem bf_join_l {Q : List mv_V → mv_M → Prop} {M0 : mv_M} {o : Nat} {n cnt x y kp gv : Int} {f0 : Int → Int} (ho : 2 ≤ o) (hn : n ≤ 64) (hc0 : 0 ≤ cnt) (hc1 : cnt ≤ 64) (hkp : mv_r kp) (k : ∀ M' f', bf_fr M0 M' o (o + 2) → bf_S M' o n (cnt - 1) f' → (∀ t, 0 ≤ t → t < n → f' t = if f0 t = gv then kp else f0 t) → Q [] M') : ∀ (d : Nat) (i : Int) (M : mv_M) (f : Int → Int), n - i < d → 0 ≤ i → i ≤ n → bf_fr M0 M o (o + 2) → bf_S M o n cnt f → (∀ t, 0 ≤ t → t < i → f t = if f0 t = gv then kp else f0 t) → (∀ t, i ≤ t → t < n → f t = f0 t) → mv_W md_S_join 43 [.inr o, .inl x, .inl y, .inl kp, .inl gv, .inl i] [] M (0, 0) Q := by
  intro d
  induction d with
  | zero =>
    intro i M f hd h0 hi hfr hS hf hg
    exfalso; omega
  | succ d ih =>
    intro i M f hd h0 hi hfr hS hf hg
    refine mx_iload d_S_join_43 rfl ?_
    refine mx_aload_n d_S_join_45 rfl (by omega) ?_
    refine mx_gl d_S_join_46 f_S_15 hS.1 rfl ?_
    refine mx_icmp_ge 78 d_S_join_49 (by decide) (fun c49 => ?_) (fun c49 => ?_)
    · skip
      refine mx_aload_n d_S_join_78 rfl (by omega) ?_
      refine mx_dup d_S_join_79 ?_
      refine mx_gl d_S_join_80 f_S_19 hS.1 rfl ?_
      refine mx_iconst (1) d_S_join_83 (by decide +kernel) (by unfold mv_r; omega) ?_
      refine mx_isub d_S_join_84 (by unfold mv_r; omega) ?_
      refine mx_pl d_S_join_85 g_S_19 hS.1 (mv_Vi _) (Nat.le_of_ble_eq_true rfl) ?_
      refine mx_return d_S_join_88 rfl ?_
      exact k _ f (hfr.put (by omega) (by omega)) ⟨mv_ps, by rw [mv_pn (by omega)]; exact hS.2⟩ (fun t g0 g1 => hf t g0 (by omega))
    · skip
      refine mx_aload_n d_S_join_52 rfl (by omega) ?_
      refine mx_gl d_S_join_53 f_S_9 hS.1 rfl ?_
      refine mx_iload d_S_join_56 rfl ?_
      refine mx_iald d_S_join_58 hS.2 (by omega) (by omega) ?_
      refine mx_iload d_S_join_59 rfl ?_
      refine mx_icmp_ne 72 d_S_join_61 (by decide) (fun c61 => ?_) (fun c61 => ?_)
      · skip
        have hstay : f i = if f0 i = gv then kp else f0 i := by rw [← hg i (by omega) (by omega), if_neg c61]
        refine mx_iinc d_S_join_72 rfl (by unfold mv_r; omega) ?_
        refine mx_goto 43 d_S_join_75 (by decide) ?_
        exact ih (i + 1) M f (by omega) (by omega) (by omega) hfr hS (fun t g0 g1 => by
          by_cases ht : t = i
          · rw [ht]; exact hstay
          · exact hf t g0 (by omega)) (fun t g0 g1 => hg t (by omega) g1)
      · skip
        have hchg : kp = if f0 i = gv then kp else f0 i := by rw [← hg i (by omega) (by omega), if_pos (by omega)]
        refine mx_aload_n d_S_join_64 rfl (by omega) ?_
        refine mx_gl d_S_join_65 f_S_9 hS.1 rfl ?_
        refine mx_iload d_S_join_68 rfl ?_
        refine mx_iload_n d_S_join_70 rfl ?_
        refine mx_iast d_S_join_71 hS.2 (by omega) (by omega) (by omega) ?_
        refine mx_iinc d_S_join_72 rfl (by unfold mv_r; omega) ?_
        refine mx_goto 43 d_S_join_75 (by decide) ?_
        exact ih (i + 1) _ (mv_s f i kp) (by omega) (by omega) (by omega) (hfr.put (by omega) (by omega)) ⟨by rw [mv_pn (by omega)]; exact hS.1, mv_ps⟩ (fun t g0 g1 => by
          by_cases ht : t = i
          · rw [ht, mv_ss]; exact hchg
          · rw [mv_sn ht]; exact hf t g0 (by omega)) (fun t g0 g1 => by rw [mv_sn (by omega)]; exact hg t (by omega) g1)
theorem bf_join {M : mv_M} {o : Nat} {n cnt x y : Int} {f : Int → Int} (ho : 2 ≤ o) (hS : bf_S M o n cnt f) (hn : n ≤ 64) (hc0 : 0 ≤ cnt) (hc1 : cnt ≤ 64) (x0 : 0 ≤ x) (x1 : x < n) (y0 : 0 ≤ y) (y1 : y < n) (hfx : mv_r (f x)) (hfy : mv_r (f y)) {Q : List mv_V → mv_M → Prop} (k1 : f x = f y → Q [] M) (k2 : ∀ M' f', f x ≠ f y → bf_fr M M' o (o + 2) → bf_S M' o n (cnt - 1) f' → (∀ t, 0 ≤ t → t < n → f' t = pu_join f x y t) → Q [] M')  : mv_J md_S_join [.inr o, .inl x, .inl y] M Q := by
  refine mv_enter (by decide +kernel) (Nat.le_of_ble_eq_true rfl) ?_
  show mv_W md_S_join 0 [.inr o, .inl x, .inl y, .inr 0, .inr 0, .inr 0] [] M (0, 0) Q
  refine mx_aload_n d_S_join_0 rfl (by omega) ?_
  refine mx_gl d_S_join_1 f_S_9 hS.1 rfl ?_
  refine mx_iload_n d_S_join_4 rfl ?_
  refine mx_iald d_S_join_5 hS.2 (by omega) (by omega) ?_
  refine mx_aload_n d_S_join_6 rfl (by omega) ?_
  refine mx_gl d_S_join_7 f_S_9 hS.1 rfl ?_
  refine mx_iload_n d_S_join_10 rfl ?_
  refine mx_iald d_S_join_11 hS.2 (by omega) (by omega) ?_
  refine mx_min d_S_join_12 c_S_22 (by decide) (Nat.le_of_ble_eq_true rfl) ?_
  refine mx_istore_n d_S_join_15 (by decide) ?_
  refine mx_aload_n d_S_join_16 rfl (by omega) ?_
  refine mx_gl d_S_join_17 f_S_9 hS.1 rfl ?_
  refine mx_iload_n d_S_join_20 rfl ?_
  refine mx_iald d_S_join_21 hS.2 (by omega) (by omega) ?_
  refine mx_aload_n d_S_join_22 rfl (by omega) ?_
  refine mx_gl d_S_join_23 f_S_9 hS.1 rfl ?_
  refine mx_iload_n d_S_join_26 rfl ?_
  refine mx_iald d_S_join_27 hS.2 (by omega) (by omega) ?_
  refine mx_max d_S_join_28 c_S_28 (by decide) (Nat.le_of_ble_eq_true rfl) ?_
  refine mx_istore d_S_join_31 (by decide) ?_
  refine mx_iload_n d_S_join_33 rfl ?_
  refine mx_iload d_S_join_34 rfl ?_
  refine mx_icmp_ne 40 d_S_join_36 (by decide) (fun c36 => ?_) (fun c36 => ?_)
  · skip
    refine mx_iconst (0) d_S_join_40 (by decide +kernel) (by unfold mv_r; omega) ?_
    refine mx_istore d_S_join_41 (by decide) ?_
    exact bf_join_l (f0 := f) (gv := max (f x) (f y)) (kp := min (f x) (f y)) ho hn hc0 hc1 (by unfold mv_r at *; omega) (fun M' f' a b c => k2 M' f' (by omega) a b c) (n.toNat + 1) 0 M f (by omega) (by omega) (by omega) bf_fr.refl hS (fun t g0 g1 => by omega) (fun t _ _ => rfl)
  · skip
    refine mx_return d_S_join_39 rfl ?_
    exact k1 (by omega)
end
section
/-! the class: groups -/
def bf_G (M : mv_M) (o : Nat) (cnt : Int) (L U R D P LP Z GO OR PL : Int → Int) : Prop :=
  M.2 o = .inr (ki_G, mv_l [.inr (o + 1), .inr (o + 6), .inr (o + 7), .inr (o + 8), .inr (o + 9), .inr (o + 10), .inr (o + 11)]) ∧ bf_R M (o + 1) 64 cnt L U R D ∧ M.2 (o + 6) = .inl (64, P) ∧ M.2 (o + 7) = .inl (64, LP) ∧ M.2 (o + 8) = .inl (64, Z) ∧ M.2 (o + 9) = .inl (64, GO) ∧ M.2 (o + 10) = .inl (64, OR) ∧ M.2 (o + 11) = .inl (64, PL)
theorem bf_G.fr {M M' : mv_M} {o : Nat} {cnt : Int} {L U R D P LP Z GO OR PL : Int → Int} (h : bf_G M o cnt L U R D P LP Z GO OR PL) {a b : Nat} (hf : bf_fr M M' a b) (hd : o + 12 ≤ a ∨ b ≤ o) : bf_G M' o cnt L U R D P LP Z GO OR PL := by
  refine ⟨?_, h.2.1.fr hf (by omega), ?_, ?_, ?_, ?_, ?_, ?_⟩
  · rw [hf o (by omega)]; exact h.1
  · rw [hf (o + 6) (by omega)]; exact h.2.2.1
  · rw [hf (o + 7) (by omega)]; exact h.2.2.2.1
  · rw [hf (o + 8) (by omega)]; exact h.2.2.2.2.1
  · rw [hf (o + 9) (by omega)]; exact h.2.2.2.2.2.1
  · rw [hf (o + 10) (by omega)]; exact h.2.2.2.2.2.2.1
  · rw [hf (o + 11) (by omega)]; exact h.2.2.2.2.2.2.2
/-- the rectangles of a group have changed, nothing else -/
theorem bf_G.rect {M M' : mv_M} {o : Nat} {cnt cnt' : Int} {L U R D P LP Z GO OR PL L' U' R' D' : Int → Int} (h : bf_G M o cnt L U R D P LP Z GO OR PL) (hf : bf_fr M M' (o + 1) (o + 6)) (hr : bf_R M' (o + 1) 64 cnt' L' U' R' D') : bf_G M' o cnt' L' U' R' D' P LP Z GO OR PL := by
  refine ⟨?_, hr, ?_, ?_, ?_, ?_, ?_, ?_⟩
  · rw [hf o (by omega)]; exact h.1
  · rw [hf (o + 6) (by omega)]; exact h.2.2.1
  · rw [hf (o + 7) (by omega)]; exact h.2.2.2.1
  · rw [hf (o + 8) (by omega)]; exact h.2.2.2.2.1
  · rw [hf (o + 9) (by omega)]; exact h.2.2.2.2.2.1
  · rw [hf (o + 10) (by omega)]; exact h.2.2.2.2.2.2.1
  · rw [hf (o + 11) (by omega)]; exact h.2.2.2.2.2.2.2
theorem bf_fr1 {M : mv_M} {k : Nat} {c : mv_C} : bf_fr M (mv_p M k c) k (k + 1) := fun j hj => mv_pn (by omega)
theorem bf_G.pP {M : mv_M} {o : Nat} {cnt : Int} {L U R D P LP Z GO OR PL X : Int → Int} (h : bf_G M o cnt L U R D P LP Z GO OR PL) : bf_G (mv_p M (o + 6) (.inl (64, X))) o cnt L U R D X LP Z GO OR PL := by
  refine ⟨?_, h.2.1.fr bf_fr1 (by omega), ?_, ?_, ?_, ?_, ?_, ?_⟩
  · rw [mv_pn (by omega)]; exact h.1
  · exact mv_ps
  · rw [mv_pn (by omega)]; exact h.2.2.2.1
  · rw [mv_pn (by omega)]; exact h.2.2.2.2.1
  · rw [mv_pn (by omega)]; exact h.2.2.2.2.2.1
  · rw [mv_pn (by omega)]; exact h.2.2.2.2.2.2.1
  · rw [mv_pn (by omega)]; exact h.2.2.2.2.2.2.2
theorem bf_G.pLP {M : mv_M} {o : Nat} {cnt : Int} {L U R D P LP Z GO OR PL X : Int → Int} (h : bf_G M o cnt L U R D P LP Z GO OR PL) : bf_G (mv_p M (o + 7) (.inl (64, X))) o cnt L U R D P X Z GO OR PL := by
  refine ⟨?_, h.2.1.fr bf_fr1 (by omega), ?_, ?_, ?_, ?_, ?_, ?_⟩
  · rw [mv_pn (by omega)]; exact h.1
  · rw [mv_pn (by omega)]; exact h.2.2.1
  · exact mv_ps
  · rw [mv_pn (by omega)]; exact h.2.2.2.2.1
  · rw [mv_pn (by omega)]; exact h.2.2.2.2.2.1
  · rw [mv_pn (by omega)]; exact h.2.2.2.2.2.2.1
  · rw [mv_pn (by omega)]; exact h.2.2.2.2.2.2.2
theorem bf_G.pZ {M : mv_M} {o : Nat} {cnt : Int} {L U R D P LP Z GO OR PL X : Int → Int} (h : bf_G M o cnt L U R D P LP Z GO OR PL) : bf_G (mv_p M (o + 8) (.inl (64, X))) o cnt L U R D P LP X GO OR PL := by
  refine ⟨?_, h.2.1.fr bf_fr1 (by omega), ?_, ?_, ?_, ?_, ?_, ?_⟩
  · rw [mv_pn (by omega)]; exact h.1
  · rw [mv_pn (by omega)]; exact h.2.2.1
  · rw [mv_pn (by omega)]; exact h.2.2.2.1
  · exact mv_ps
  · rw [mv_pn (by omega)]; exact h.2.2.2.2.2.1
  · rw [mv_pn (by omega)]; exact h.2.2.2.2.2.2.1
  · rw [mv_pn (by omega)]; exact h.2.2.2.2.2.2.2
theorem bf_G.pGO {M : mv_M} {o : Nat} {cnt : Int} {L U R D P LP Z GO OR PL X : Int → Int} (h : bf_G M o cnt L U R D P LP Z GO OR PL) : bf_G (mv_p M (o + 9) (.inl (64, X))) o cnt L U R D P LP Z X OR PL := by
  refine ⟨?_, h.2.1.fr bf_fr1 (by omega), ?_, ?_, ?_, ?_, ?_, ?_⟩
  · rw [mv_pn (by omega)]; exact h.1
  · rw [mv_pn (by omega)]; exact h.2.2.1
  · rw [mv_pn (by omega)]; exact h.2.2.2.1
  · rw [mv_pn (by omega)]; exact h.2.2.2.2.1
  · exact mv_ps
  · rw [mv_pn (by omega)]; exact h.2.2.2.2.2.2.1
  · rw [mv_pn (by omega)]; exact h.2.2.2.2.2.2.2
theorem bf_G.pOR {M : mv_M} {o : Nat} {cnt : Int} {L U R D P LP Z GO OR PL X : Int → Int} (h : bf_G M o cnt L U R D P LP Z GO OR PL) : bf_G (mv_p M (o + 10) (.inl (64, X))) o cnt L U R D P LP Z GO X PL := by
  refine ⟨?_, h.2.1.fr bf_fr1 (by omega), ?_, ?_, ?_, ?_, ?_, ?_⟩
  · rw [mv_pn (by omega)]; exact h.1
  · rw [mv_pn (by omega)]; exact h.2.2.1
  · rw [mv_pn (by omega)]; exact h.2.2.2.1
  · rw [mv_pn (by omega)]; exact h.2.2.2.2.1
  · rw [mv_pn (by omega)]; exact h.2.2.2.2.2.1
  · exact mv_ps
  · rw [mv_pn (by omega)]; exact h.2.2.2.2.2.2.2
theorem bf_G.pPL {M : mv_M} {o : Nat} {cnt : Int} {L U R D P LP Z GO OR PL X : Int → Int} (h : bf_G M o cnt L U R D P LP Z GO OR PL) : bf_G (mv_p M (o + 11) (.inl (64, X))) o cnt L U R D P LP Z GO OR X := by
  refine ⟨?_, h.2.1.fr bf_fr1 (by omega), ?_, ?_, ?_, ?_, ?_, ?_⟩
  · rw [mv_pn (by omega)]; exact h.1
  · rw [mv_pn (by omega)]; exact h.2.2.1
  · rw [mv_pn (by omega)]; exact h.2.2.2.1
  · rw [mv_pn (by omega)]; exact h.2.2.2.2.1
  · rw [mv_pn (by omega)]; exact h.2.2.2.2.2.1
  · rw [mv_pn (by omega)]; exact h.2.2.2.2.2.2.1
  · exact mv_ps
theorem bf_size {Q : List mv_V → mv_M → Prop} {M : mv_M} {o : Nat} {cnt : Int} {L U R D P LP Z GO OR PL : Int → Int} (ho : 2 ≤ o) (hG : bf_G M o cnt L U R D P LP Z GO OR PL) (k : Q [.inl cnt] M)  : mv_J md_G_size [.inr o] M Q := by
  refine mv_enter (by decide +kernel) (Nat.le_of_ble_eq_true rfl) ?_
  show mv_W md_G_size 0 [.inr o] [] M (0, 0) Q
  refine mx_aload_n d_G_size_0 rfl (by omega) ?_
  refine mx_gl d_G_size_1 f_G_14 hG.1 rfl ?_
  refine mx_gl d_G_size_4 f_G_39 hG.2.1.1 rfl ?_
  refine mx_ireturn d_G_size_7 rfl ?_
  exact k
theorem bf_ghas {M : mv_M} {o : Nat} {cnt : Int} {L U R D P LP Z GO OR PL : Int → Int} (ho : 2 ≤ o) (hG : bf_G M o cnt L U R D P LP Z GO OR PL) {i : Int} {Q : List mv_V → mv_M → Prop} (k1 : (0 ≤ i ∧ i < cnt) → Q [.inl 1] M) (k0 : ¬ (0 ≤ i ∧ i < cnt) → Q [.inl 0] M)  : mv_J md_G_has [.inr o, .inl i] M Q := by
  refine mv_enter (by decide +kernel) (Nat.le_of_ble_eq_true rfl) ?_
  show mv_W md_G_has 0 [.inr o, .inl i] [] M (0, 0) Q
  refine mx_aload_n d_G_has_0 rfl (by omega) ?_
  refine mx_gl d_G_has_1 f_G_14 hG.1 rfl ?_
  refine mx_iload_n d_G_has_4 rfl ?_
  refine mx_cV1 d_G_has_5 c_G_43 hG.2.1.1 (by decide) (Nat.le_of_ble_eq_true rfl) ?_
  refine bf_has (by omega) hG.2.1 (fun hh => ?_) (fun hh => ?_)
  · skip
    refine mx_zreturn d_G_has_8 rfl (by omega) ?_
    first | exact k1 hh | exact k0 hh
  · skip
    refine mx_zreturn d_G_has_8 rfl (by omega) ?_
    first | exact k1 hh | exact k0 hh
def bf_cb (t : Int) (L U Z : Int → Int) (a b : Int) : Prop := Z b < Z a ∨ (Z a = Z b ∧ (bf_o t U L a < bf_o t U L b ∨ (bf_o t U L a = bf_o t U L b ∧ (bf_o t L U a < bf_o t L U b ∨ (bf_o t L U a = bf_o t L U b ∧ a < b)))))
theorem bf_comesBefore {M : mv_M} {o : Nat} {cnt : Int} {L U R D P LP Z GO OR PL : Int → Int} (ho : 2 ≤ o) (hG : bf_G M o cnt L U R D P LP Z GO OR PL) (hcn : cnt ≤ 64) (hb : bf_ok cnt L U R D) {a b t : Int} (a0 : 0 ≤ a) (a1 : a < cnt) (b0 : 0 ≤ b) (b1 : b < cnt) (ht : t = 0 ∨ t = 1) {Q : List mv_V → mv_M → Prop} (k1 : bf_cb t L U Z a b → Q [.inl 1] M) (k0 : ¬ bf_cb t L U Z a b → Q [.inl 0] M)  : mv_J md_G_comesBefore [.inr o, .inl a, .inl b, .inl t] M Q := by
  refine mv_enter (by decide +kernel) (Nat.le_of_ble_eq_true rfl) ?_
  show mv_W md_G_comesBefore 0 [.inr o, .inl a, .inl b, .inl t, .inr 0, .inr 0] [] M (0, 0) Q
  have hba := bf_ob hb a0 a1 t
  have hbb := bf_ob hb b0 b1 t
  refine mx_aload_n d_G_comesBefore_0 rfl (by omega) ?_
  refine mx_gl d_G_comesBefore_1 f_G_27 hG.1 rfl ?_
  refine mx_iload_n d_G_comesBefore_4 rfl ?_
  refine mx_iald d_G_comesBefore_5 hG.2.2.2.2.1 (by omega) (by omega) ?_
  refine mx_aload_n d_G_comesBefore_6 rfl (by omega) ?_
  refine mx_gl d_G_comesBefore_7 f_G_27 hG.1 rfl ?_
  refine mx_iload_n d_G_comesBefore_10 rfl ?_
  refine mx_iald d_G_comesBefore_11 hG.2.2.2.2.1 (by omega) (by omega) ?_
  refine mx_icmp_eq 36 d_G_comesBefore_12 (by decide) (fun c12 => ?_) (fun c12 => ?_)
  · skip
    refine mx_aload_n d_G_comesBefore_36 rfl (by omega) ?_
    refine mx_gl d_G_comesBefore_37 f_G_14 hG.1 rfl ?_
    refine mx_iload_n d_G_comesBefore_40 rfl ?_
    refine mx_iload_n d_G_comesBefore_41 rfl ?_
    refine mx_cV2 d_G_comesBefore_42 c_G_87 hG.2.1.1 (by decide) (Nat.le_of_ble_eq_true rfl) ?_
    refine bf_upperEnd (by omega) hG.2.1 a0 (by omega) ht ?_
    refine mx_aload_n d_G_comesBefore_45 rfl (by omega) ?_
    refine mx_gl d_G_comesBefore_46 f_G_14 hG.1 rfl ?_
    refine mx_iload_n d_G_comesBefore_49 rfl ?_
    refine mx_iload_n d_G_comesBefore_50 rfl ?_
    refine mx_cV2 d_G_comesBefore_51 c_G_87 hG.2.1.1 (by decide) (Nat.le_of_ble_eq_true rfl) ?_
    refine bf_upperEnd (by omega) hG.2.1 b0 (by omega) ht ?_
    refine mx_isub d_G_comesBefore_54 (by unfold mv_r; omega) ?_
    refine mx_istore d_G_comesBefore_55 (by decide) ?_
    refine mx_iload d_G_comesBefore_57 rfl ?_
    refine mx_if_eq 73 d_G_comesBefore_59 (by decide) (fun c59 => ?_) (fun c59 => ?_)
    · skip
      refine mx_aload_n d_G_comesBefore_73 rfl (by omega) ?_
      refine mx_gl d_G_comesBefore_74 f_G_14 hG.1 rfl ?_
      refine mx_iload_n d_G_comesBefore_77 rfl ?_
      refine mx_iload_n d_G_comesBefore_78 rfl ?_
      refine mx_cV2 d_G_comesBefore_79 c_G_91 hG.2.1.1 (by decide) (Nat.le_of_ble_eq_true rfl) ?_
      refine bf_leftEnd (by omega) hG.2.1 a0 (by omega) ht ?_
      refine mx_aload_n d_G_comesBefore_82 rfl (by omega) ?_
      refine mx_gl d_G_comesBefore_83 f_G_14 hG.1 rfl ?_
      refine mx_iload_n d_G_comesBefore_86 rfl ?_
      refine mx_iload_n d_G_comesBefore_87 rfl ?_
      refine mx_cV2 d_G_comesBefore_88 c_G_91 hG.2.1.1 (by decide) (Nat.le_of_ble_eq_true rfl) ?_
      refine bf_leftEnd (by omega) hG.2.1 b0 (by omega) ht ?_
      refine mx_isub d_G_comesBefore_91 (by unfold mv_r; omega) ?_
      refine mx_istore d_G_comesBefore_92 (by decide) ?_
      refine mx_iload d_G_comesBefore_94 rfl ?_
      refine mx_if_eq 110 d_G_comesBefore_96 (by decide) (fun c96 => ?_) (fun c96 => ?_)
      · skip
        refine mx_iload_n d_G_comesBefore_110 rfl ?_
        refine mx_iload_n d_G_comesBefore_111 rfl ?_
        refine mx_icmp_ge 119 d_G_comesBefore_112 (by decide) (fun c112 => ?_) (fun c112 => ?_)
        · skip
          refine mx_iconst (0) d_G_comesBefore_119 (by decide +kernel) (by unfold mv_r; omega) ?_
          refine mx_zreturn d_G_comesBefore_120 rfl (by omega) ?_
          first | exact k1 (by unfold bf_cb; omega) | exact k0 (by unfold bf_cb; omega)
        · skip
          refine mx_iconst (1) d_G_comesBefore_115 (by decide +kernel) (by unfold mv_r; omega) ?_
          refine mx_goto 120 d_G_comesBefore_116 (by decide) ?_
          refine mx_zreturn d_G_comesBefore_120 rfl (by omega) ?_
          first | exact k1 (by unfold bf_cb; omega) | exact k0 (by unfold bf_cb; omega)
      · skip
        refine mx_iload d_G_comesBefore_99 rfl ?_
        refine mx_if_ge 108 d_G_comesBefore_101 (by decide) (fun c101 => ?_) (fun c101 => ?_)
        · skip
          refine mx_iconst (0) d_G_comesBefore_108 (by decide +kernel) (by unfold mv_r; omega) ?_
          refine mx_zreturn d_G_comesBefore_109 rfl (by omega) ?_
          first | exact k1 (by unfold bf_cb; omega) | exact k0 (by unfold bf_cb; omega)
        · skip
          refine mx_iconst (1) d_G_comesBefore_104 (by decide +kernel) (by unfold mv_r; omega) ?_
          refine mx_goto 109 d_G_comesBefore_105 (by decide) ?_
          refine mx_zreturn d_G_comesBefore_109 rfl (by omega) ?_
          first | exact k1 (by unfold bf_cb; omega) | exact k0 (by unfold bf_cb; omega)
    · skip
      refine mx_iload d_G_comesBefore_62 rfl ?_
      refine mx_if_ge 71 d_G_comesBefore_64 (by decide) (fun c64 => ?_) (fun c64 => ?_)
      · skip
        refine mx_iconst (0) d_G_comesBefore_71 (by decide +kernel) (by unfold mv_r; omega) ?_
        refine mx_zreturn d_G_comesBefore_72 rfl (by omega) ?_
        first | exact k1 (by unfold bf_cb; omega) | exact k0 (by unfold bf_cb; omega)
      · skip
        refine mx_iconst (1) d_G_comesBefore_67 (by decide +kernel) (by unfold mv_r; omega) ?_
        refine mx_goto 72 d_G_comesBefore_68 (by decide) ?_
        refine mx_zreturn d_G_comesBefore_72 rfl (by omega) ?_
        first | exact k1 (by unfold bf_cb; omega) | exact k0 (by unfold bf_cb; omega)
  · skip
    refine mx_aload_n d_G_comesBefore_15 rfl (by omega) ?_
    refine mx_gl d_G_comesBefore_16 f_G_27 hG.1 rfl ?_
    refine mx_iload_n d_G_comesBefore_19 rfl ?_
    refine mx_iald d_G_comesBefore_20 hG.2.2.2.2.1 (by omega) (by omega) ?_
    refine mx_aload_n d_G_comesBefore_21 rfl (by omega) ?_
    refine mx_gl d_G_comesBefore_22 f_G_27 hG.1 rfl ?_
    refine mx_iload_n d_G_comesBefore_25 rfl ?_
    refine mx_iald d_G_comesBefore_26 hG.2.2.2.2.1 (by omega) (by omega) ?_
    refine mx_icmp_le 34 d_G_comesBefore_27 (by decide) (fun c27 => ?_) (fun c27 => ?_)
    · skip
      refine mx_iconst (0) d_G_comesBefore_34 (by decide +kernel) (by unfold mv_r; omega) ?_
      refine mx_zreturn d_G_comesBefore_35 rfl (by omega) ?_
      first | exact k1 (by unfold bf_cb; omega) | exact k0 (by unfold bf_cb; omega)
    · skip
      refine mx_iconst (1) d_G_comesBefore_30 (by decide +kernel) (by unfold mv_r; omega) ?_
      refine mx_goto 35 d_G_comesBefore_31 (by decide) ?_
      refine mx_zreturn d_G_comesBefore_35 rfl (by omega) ?_
      first | exact k1 (by unfold bf_cb; omega) | exact k0 (by unfold bf_cb; omega)
theorem bf_begin {Q : List mv_V → mv_M → Prop} {M : mv_M} {o : Nat} {cnt : Int} {L U R D P LP Z GO OR PL : Int → Int} (ho : 2 ≤ o) (hG : bf_G M o cnt L U R D P LP Z GO OR PL) {o2 n2 : Nat} {cnt2 : Int} {L2 U2 R2 D2 : Int → Int} (ho2 : 2 ≤ o2) (hR2 : bf_R M o2 n2 cnt2 L2 U2 R2 D2) (hdj : o + 12 ≤ o2 ∨ o2 + 5 ≤ o) {i : Int} (hc0 : 0 ≤ cnt) (hc1 : cnt < 64) (h0 : 0 ≤ i) (h1 : i < n2) (h64 : i < 64) (k : ∀ M', bf_fr M M' o (o + 12) → bf_G M' o (cnt + 1) (mv_s L cnt (L2 i)) (mv_s U cnt (U2 i)) (mv_s R cnt (R2 i)) (mv_s D cnt (D2 i)) (mv_s P cnt 1) (mv_s LP cnt i) Z (mv_s GO i cnt) OR PL → Q [] M')  : mv_J md_G_begin [.inr o, .inr o2, .inl i] M Q := by
  refine mv_enter (by decide +kernel) (Nat.le_of_ble_eq_true rfl) ?_
  show mv_W md_G_begin 0 [.inr o, .inr o2, .inl i, .inr 0] [] M (0, 0) Q
  refine mx_aload_n d_G_begin_0 rfl (by omega) ?_
  refine mx_gl d_G_begin_1 f_G_14 hG.1 rfl ?_
  refine mx_aload_n d_G_begin_4 rfl (by omega) ?_
  refine mx_gl d_G_begin_5 f_G_60 hR2.1 rfl ?_
  refine mx_iload_n d_G_begin_8 rfl ?_
  refine mx_iald d_G_begin_9 hR2.2.1 (by omega) (by omega) ?_
  refine mx_aload_n d_G_begin_10 rfl (by omega) ?_
  refine mx_gl d_G_begin_11 f_G_63 hR2.1 rfl ?_
  refine mx_iload_n d_G_begin_14 rfl ?_
  refine mx_iald d_G_begin_15 hR2.2.2.1 (by omega) (by omega) ?_
  refine mx_aload_n d_G_begin_16 rfl (by omega) ?_
  refine mx_gl d_G_begin_17 f_G_66 hR2.1 rfl ?_
  refine mx_iload_n d_G_begin_20 rfl ?_
  refine mx_iald d_G_begin_21 hR2.2.2.2.1 (by omega) (by omega) ?_
  refine mx_aload_n d_G_begin_22 rfl (by omega) ?_
  refine mx_gl d_G_begin_23 f_G_69 hR2.1 rfl ?_
  refine mx_iload_n d_G_begin_26 rfl ?_
  refine mx_iald d_G_begin_27 hR2.2.2.2.2 (by omega) (by omega) ?_
  refine mx_cV4 d_G_begin_28 c_G_72 hG.2.1.1 (by decide) (Nat.le_of_ble_eq_true rfl) ?_
  refine bf_add (by omega) hG.2.1 (by omega) hc0 (fun q => by exfalso; omega) (fun M' _ hfr hr' => ?_)
  have hG1 := hG.rect (hfr.up (by omega) (by omega)) hr'
  refine mx_istore_n d_G_begin_31 (by decide) ?_
  refine mx_iload_n d_G_begin_32 rfl ?_
  refine mx_if_lt 57 d_G_begin_33 (by decide) (fun c33 => ?_) (fun c33 => ?_)
  · skip
    exfalso; omega
  · skip
    refine mx_aload_n d_G_begin_36 rfl (by omega) ?_
    refine mx_gl d_G_begin_37 f_G_20 hG1.1 rfl ?_
    refine mx_iload_n d_G_begin_40 rfl ?_
    refine mx_iconst (1) d_G_begin_41 (by decide +kernel) (by unfold mv_r; omega) ?_
    refine mx_iast d_G_begin_42 hG1.2.2.1 (by omega) (by omega) (by omega) ?_
    refine mx_aload_n d_G_begin_43 rfl (by omega) ?_
    refine mx_gl d_G_begin_44 f_G_24 (by rw [mv_pn (by omega)]; exact hG1.1) rfl ?_
    refine mx_iload_n d_G_begin_47 rfl ?_
    refine mx_iload_n d_G_begin_48 rfl ?_
    refine mx_iast d_G_begin_49 (by rw [mv_pn (by omega)]; exact hG1.2.2.2.1) (by omega) (by omega) (by omega) ?_
    refine mx_aload_n d_G_begin_50 rfl (by omega) ?_
    refine mx_gl d_G_begin_51 f_G_30 (by rw [mv_pn (by omega), mv_pn (by omega)]; exact hG1.1) rfl ?_
    refine mx_iload_n d_G_begin_54 rfl ?_
    refine mx_iload_n d_G_begin_55 rfl ?_
    refine mx_iast d_G_begin_56 (by rw [mv_pn (by omega), mv_pn (by omega)]; exact hG1.2.2.2.2.2.1) (by omega) (by omega) (by omega) ?_
    refine mx_return d_G_begin_57 rfl ?_
    exact k _ (((hfr.up (by omega) (by omega)).put (by omega) (by omega)).put (by omega) (by omega) |>.put (by omega) (by omega)) hG1.pP.pLP.pGO
theorem bf_extend {Q : List mv_V → mv_M → Prop} {M : mv_M} {o : Nat} {cnt : Int} {L U R D P LP Z GO OR PL : Int → Int} (ho : 2 ≤ o) (hG : bf_G M o cnt L U R D P LP Z GO OR PL) {o2 n2 : Nat} {cnt2 : Int} {L2 U2 R2 D2 : Int → Int} (ho2 : 2 ≤ o2) (hR2 : bf_R M o2 n2 cnt2 L2 U2 R2 D2) (hdj : o + 12 ≤ o2 ∨ o2 + 5 ≤ o) {g i : Int} (g0 : 0 ≤ g) (g1 : g < 64) (hp0 : 0 ≤ P g) (hp1 : P g ≤ 64) (h0 : 0 ≤ i) (h1 : i < n2) (h64 : i < 64) (k : ∀ M', bf_fr M M' o (o + 12) → bf_G M' o cnt (mv_s L g (min (L g) (L2 i))) (mv_s U g (min (U g) (U2 i))) (mv_s R g (max (R g) (R2 i))) (mv_s D g (max (D g) (D2 i))) (mv_s P g (P g + 1)) LP Z (mv_s GO i g) OR PL → Q [] M')  : mv_J md_G_extend [.inr o, .inl g, .inr o2, .inl i] M Q := by
  refine mv_enter (by decide +kernel) (Nat.le_of_ble_eq_true rfl) ?_
  show mv_W md_G_extend 0 [.inr o, .inl g, .inr o2, .inl i] [] M (0, 0) Q
  refine mx_aload_n d_G_extend_0 rfl (by omega) ?_
  refine mx_gl d_G_extend_1 f_G_14 hG.1 rfl ?_
  refine mx_iload_n d_G_extend_4 rfl ?_
  refine mx_aload_n d_G_extend_5 rfl (by omega) ?_
  refine mx_iload_n d_G_extend_6 rfl ?_
  refine mx_cV3 d_G_extend_7 c_G_76 hG.2.1.1 (by decide) (Nat.le_of_ble_eq_true rfl) ?_
  refine bf_stretchOver (by omega) hG.2.1 ho2 hR2 (by omega) g0 (by omega) h0 h1 (fun M' hfr hr' => ?_)
  have hG1 := hG.rect (hfr.up (by omega) (by omega)) hr'
  refine mx_aload_n d_G_extend_10 rfl (by omega) ?_
  refine mx_gl d_G_extend_11 f_G_20 hG1.1 rfl ?_
  refine mx_iload_n d_G_extend_14 rfl ?_
  refine mx_dup2 d_G_extend_15 ?_
  refine mx_iald d_G_extend_16 hG1.2.2.1 (by omega) (by omega) ?_
  refine mx_iconst (1) d_G_extend_17 (by decide +kernel) (by unfold mv_r; omega) ?_
  refine mx_iadd d_G_extend_18 (by unfold mv_r; omega) ?_
  refine mx_iast d_G_extend_19 hG1.2.2.1 (by omega) (by omega) (by omega) ?_
  refine mx_aload_n d_G_extend_20 rfl (by omega) ?_
  refine mx_gl d_G_extend_21 f_G_30 (by rw [mv_pn (by omega)]; exact hG1.1) rfl ?_
  refine mx_iload_n d_G_extend_24 rfl ?_
  refine mx_iload_n d_G_extend_25 rfl ?_
  refine mx_iast d_G_extend_26 (by rw [mv_pn (by omega)]; exact hG1.2.2.2.2.2.1) (by omega) (by omega) (by omega) ?_
  refine mx_return d_G_extend_27 rfl ?_
  exact k _ (((hfr.up (by omega) (by omega)).put (by omega) (by omega)).put (by omega) (by omega)) hG1.pP.pGO
theorem bf_gather_l {Q : List mv_V → mv_M → Prop} {M0 : mv_M} {o o2 n2 o3 : Nat} {n sc : Int} {mem : Int} {f FL FU FR FD Z OR PL : Int → Int} (ho : 2 ≤ o) (ho2 : 2 ≤ o2) (ho3 : 2 ≤ o3) (hdj : o + 12 ≤ o2 ∨ o2 + 5 ≤ o) (hdj3 : o + 12 ≤ o3 ∨ o3 + 2 ≤ o) (hR2 : bf_R M0 o2 n2 n FL FU FR FD) (hS : bf_S M0 o3 mem sc f) (hn : n ≤ 64) (hn2 : n ≤ n2) (hf : ∀ j, 0 ≤ j → j < n → 0 ≤ f j ∧ f j ≤ j ∧ f (f j) = f j) (k : ∀ M' cnt' L' U' R' D' P' LP' GO', bf_fr M0 M' o (o + 12) → bf_G M' o cnt' L' U' R' D' P' LP' Z GO' OR PL → pu_grp n f FL FU FR FD cnt' L' U' R' D' P' LP' GO' → Q [] M') : ∀ (d : Nat) (i : Int) (M : mv_M) (cnt : Int) (L U R D P LP GO : Int → Int), n - i < d → 0 ≤ i → i ≤ n → bf_fr M0 M o (o + 12) → bf_G M o cnt L U R D P LP Z GO OR PL → pu_grp i f FL FU FR FD cnt L U R D P LP GO → mv_W md_G_gather 10 [.inr o, .inr o2, .inr o3, .inl i] [] M (0, 0) Q := by
  intro d
  induction d with
  | zero =>
    intro i M cnt L U R D P LP GO hd h0 hi hfr hG hI
    exfalso; omega
  | succ d ih =>
    intro i M cnt L U R D P LP GO hd h0 hi hfr hG hI
    have hcc := hI.1
    have hA := hR2.fr hfr (by omega)
    have hB := hS.fr hfr (by omega)
    refine mx_iload_n d_G_gather_10 rfl ?_
    refine mx_aload_n d_G_gather_11 rfl (by omega) ?_
    refine mx_gl d_G_gather_12 f_G_39 hA.1 rfl ?_
    refine mx_icmp_ge 60 d_G_gather_15 (by decide) (fun c15 => ?_) (fun c15 => ?_)
    · skip
      refine mx_return d_G_gather_60 rfl ?_
      exact k M cnt L U R D P LP GO hfr hG ((show i = n by omega) ▸ hI)
    · skip
      refine mx_aload_n d_G_gather_18 rfl (by omega) ?_
      refine mx_gl d_G_gather_19 f_G_47 hB.1 rfl ?_
      refine mx_iload_n d_G_gather_22 rfl ?_
      refine mx_iald d_G_gather_23 hB.2 (by omega) (by omega) ?_
      refine mx_iload_n d_G_gather_24 rfl ?_
      refine mx_icmp_ne 37 d_G_gather_25 (by decide) (fun c25 => ?_) (fun c25 => ?_)
      · skip
        have hfi := hf i h0 (by omega)
        have hgo := hI.2.1 (f i) (by omega) (by omega)
        have hpp := pu_cnt_le (fun j => decide (f j = LP (GO (f i)))) i.toNat
        rw [← hI.2.2.2.2.2.1 (GO (f i)) (by omega) (by omega)] at hpp
        refine mx_aload_n d_G_gather_37 rfl (by omega) ?_
        refine mx_aload_n d_G_gather_38 rfl (by omega) ?_
        refine mx_gl d_G_gather_39 f_G_30 hG.1 rfl ?_
        refine mx_aload_n d_G_gather_42 rfl (by omega) ?_
        refine mx_gl d_G_gather_43 f_G_47 hB.1 rfl ?_
        refine mx_iload_n d_G_gather_46 rfl ?_
        refine mx_iald d_G_gather_47 hB.2 (by omega) (by omega) ?_
        refine mx_iald d_G_gather_48 hG.2.2.2.2.2.1 (by omega) (by omega) ?_
        refine mx_aload_n d_G_gather_49 rfl (by omega) ?_
        refine mx_iload_n d_G_gather_50 rfl ?_
        refine mx_cV3 d_G_gather_51 c_G_56 hG.1 (by decide) (Nat.le_of_ble_eq_true rfl) ?_
        refine bf_extend ho hG ho2 hA hdj (by omega) (by omega) (by omega) (by omega) h0 (by omega) (by omega) (fun M' hfr' hG' => ?_)
        have hI' := pu_grp_extend hI h0 (fun j j0 j1 => hf j j0 (by omega)) (by omega) rfl
        refine mx_iinc d_G_gather_54 rfl (by unfold mv_r; omega) ?_
        refine mx_goto 10 d_G_gather_57 (by decide) ?_
        exact ih (i + 1) M' _ _ _ _ _ _ _ _ (by omega) (by omega) (by omega) (hfr.trans hfr') hG' hI'
      · skip
        refine mx_aload_n d_G_gather_28 rfl (by omega) ?_
        refine mx_aload_n d_G_gather_29 rfl (by omega) ?_
        refine mx_iload_n d_G_gather_30 rfl ?_
        refine mx_cV2 d_G_gather_31 c_G_52 hG.1 (by decide) (Nat.le_of_ble_eq_true rfl) ?_
        refine bf_begin ho hG ho2 hA hdj (by omega) (by omega) h0 (by omega) (by omega) (fun M' hfr' hG' => ?_)
        have hI' := pu_grp_begin hI h0 (fun j j0 j1 => hf j j0 (by omega)) (by omega)
        refine mx_goto 54 d_G_gather_34 (by decide) ?_
        refine mx_iinc d_G_gather_54 rfl (by unfold mv_r; omega) ?_
        refine mx_goto 10 d_G_gather_57 (by decide) ?_
        exact ih (i + 1) M' _ _ _ _ _ _ _ _ (by omega) (by omega) (by omega) (hfr.trans hfr') hG' hI'
theorem bf_gather {Q : List mv_V → mv_M → Prop} {M : mv_M} {o : Nat} {cnt : Int} {L U R D P LP Z GO OR PL : Int → Int} (ho : 2 ≤ o) (hG : bf_G M o cnt L U R D P LP Z GO OR PL) {o2 n2 o3 : Nat} {n sc : Int} {mem : Int} {f FL FU FR FD : Int → Int} (ho2 : 2 ≤ o2) (ho3 : 2 ≤ o3) (hdj : o + 12 ≤ o2 ∨ o2 + 5 ≤ o) (hdj3 : o + 12 ≤ o3 ∨ o3 + 2 ≤ o) (hR2 : bf_R M o2 n2 n FL FU FR FD) (hS : bf_S M o3 mem sc f) (hn0 : 0 ≤ n) (hn : n ≤ 64) (hn2 : n ≤ n2) (hf : ∀ j, 0 ≤ j → j < n → 0 ≤ f j ∧ f j ≤ j ∧ f (f j) = f j) (k : ∀ M' cnt' L' U' R' D' P' LP' GO', bf_fr M M' o (o + 12) → bf_G M' o cnt' L' U' R' D' P' LP' Z GO' OR PL → pu_grp n f FL FU FR FD cnt' L' U' R' D' P' LP' GO' → Q [] M')  : mv_J md_G_gather [.inr o, .inr o2, .inr o3] M Q := by
  refine mv_enter (by decide +kernel) (Nat.le_of_ble_eq_true rfl) ?_
  show mv_W md_G_gather 0 [.inr o, .inr o2, .inr o3, .inr 0] [] M (0, 0) Q
  refine mx_aload_n d_G_gather_0 rfl (by omega) ?_
  refine mx_gl d_G_gather_1 f_G_14 hG.1 rfl ?_
  refine mx_iconst (0) d_G_gather_4 (by decide +kernel) (by unfold mv_r; omega) ?_
  refine mx_pl d_G_gather_5 g_G_39 hG.2.1.1 (mv_Vi _) (Nat.le_of_ble_eq_true rfl) ?_
  refine mx_iconst (0) d_G_gather_8 (by decide +kernel) (by unfold mv_r; omega) ?_
  refine mx_istore_n d_G_gather_9 (by decide) ?_
  have hG1 : bf_G (mv_p M (o + 1) (.inr (ki_R, mv_l [.inr (o + 1 + 1), .inr (o + 1 + 2), .inr (o + 1 + 3), .inr (o + 1 + 4), .inl 0]))) o 0 L U R D P LP Z GO OR PL := hG.rect (fun j hj => mv_pn (by omega)) ⟨mv_ps, by rw [mv_pn (by omega)]; exact hG.2.1.2.1, by rw [mv_pn (by omega)]; exact hG.2.1.2.2.1, by rw [mv_pn (by omega)]; exact hG.2.1.2.2.2.1, by rw [mv_pn (by omega)]; exact hG.2.1.2.2.2.2⟩
  exact bf_gather_l (M0 := M) ho ho2 ho3 hdj hdj3 hR2 hS hn hn2 hf k (n.toNat + 1) 0 _ 0 L U R D P LP GO (by omega) (by omega) (by omega) (bf_fr.refl.put (by omega) (by omega)) hG1 pu_grp0
end
section
/-! the class: groups put in order -/
theorem bf_cb_tr {t : Int} {L U Z : Int → Int} : ∀ a b c, bf_cb t L U Z a b → bf_cb t L U Z b c → bf_cb t L U Z a c := by intro a b c; unfold bf_cb; omega
theorem bf_cb_to {t : Int} {L U Z : Int → Int} : ∀ a b, a ≠ b → ¬ bf_cb t L U Z a b → bf_cb t L U Z b a := by intro a b; unfold bf_cb; omega
theorem bf_cb_ir {t : Int} {L U Z : Int → Int} : ∀ a, ¬ bf_cb t L U Z a a := by intro a; unfold bf_cb; omega
theorem bf_put_in {Q : List mv_V → mv_M → Prop} {M0 : mv_M} {o : Nat} {cnt t : Int} {L U R D P LP Z GO PL : Int → Int} (ho : 2 ≤ o) (hcn : cnt ≤ 64) (hb : bf_ok cnt L U R D) (ht : t = 0 ∨ t = 1) {g : Int} {O0 : Int → Int} (g0 : 0 ≤ g) (g1 : g < cnt) (hO : pu_ord g O0 (bf_cb t L U Z)) (k : ∀ M' O fr, bf_fr M0 M' o (o + 12) → bf_G M' o cnt L U R D P LP Z GO O PL → 0 ≤ fr → fr ≤ g → pu_ord (g + 1) (mv_s O fr g) (bf_cb t L U Z) → mv_W md_G_putInOrder 53 [.inr o, .inl t, .inl g, .inl fr] [] M' (0, 0) Q) : ∀ (d : Nat) (fr : Int) (M : mv_M) (O : Int → Int), fr < d → 0 ≤ fr → fr ≤ g → bf_fr M0 M o (o + 12) → bf_G M o cnt L U R D P LP Z GO O PL → (∀ p, 0 ≤ p → p < fr → O p = O0 p) → (∀ p, fr ≤ p → p < g → O (p + 1) = O0 p) → (∀ p, fr ≤ p → p < g → bf_cb t L U Z g (O0 p)) → mv_W md_G_putInOrder 12 [.inr o, .inl t, .inl g, .inl fr] [] M (0, 0) Q := by
  intro d
  induction d with
  | zero =>
    intro fr M O h1 h2
    exfalso; omega
  | succ d ih =>
    intro fr M O hd f0 f1 hfr hG e1 e2 e3
    refine mx_iload_n d_G_putInOrder_12 rfl ?_
    refine mx_if_le 53 d_G_putInOrder_13 (by decide) (fun c13 => ?_) (fun c13 => ?_)
    · skip
      have HH : fr = 0 ∨ ¬ bf_cb t L U Z g (O0 (fr - 1)) := Or.inl (by omega)
      exact k M O fr hfr hG f0 f1 (pu_ins hO g0 f0 f1 bf_cb_tr bf_cb_to e1 e2 e3 HH)
    · skip
      refine mx_aload_n d_G_putInOrder_16 rfl (by omega) ?_
      refine mx_iload_n d_G_putInOrder_17 rfl ?_
      refine mx_aload_n d_G_putInOrder_18 rfl (by omega) ?_
      refine mx_gl d_G_putInOrder_19 f_G_33 hG.1 rfl ?_
      refine mx_iload_n d_G_putInOrder_22 rfl ?_
      refine mx_iconst (1) d_G_putInOrder_23 (by decide +kernel) (by unfold mv_r; omega) ?_
      refine mx_isub d_G_putInOrder_24 (by unfold mv_r; omega) ?_
      refine mx_iald d_G_putInOrder_25 hG.2.2.2.2.2.2.1 (by omega) (by omega) ?_
      have hof := hO.1 (fr - 1) (by omega) (by omega)
      have eO := e1 (fr - 1) (by omega) (by omega)
      rw [eO]
      refine mx_iload_n d_G_putInOrder_26 rfl ?_
      refine mx_cV3 d_G_putInOrder_27 c_G_83 hG.1 (by decide) (Nat.le_of_ble_eq_true rfl) ?_
      refine bf_comesBefore ho hG hcn hb g0 g1 (by omega) (by omega) ht (fun hcb => ?_) (fun hcb => ?_)
      · skip
        refine mx_z1 53 d_G_putInOrder_30 (by decide) ?_
        refine mx_aload_n d_G_putInOrder_33 rfl (by omega) ?_
        refine mx_gl d_G_putInOrder_34 f_G_33 hG.1 rfl ?_
        refine mx_iload_n d_G_putInOrder_37 rfl ?_
        refine mx_aload_n d_G_putInOrder_38 rfl (by omega) ?_
        refine mx_gl d_G_putInOrder_39 f_G_33 hG.1 rfl ?_
        refine mx_iload_n d_G_putInOrder_42 rfl ?_
        refine mx_iconst (1) d_G_putInOrder_43 (by decide +kernel) (by unfold mv_r; omega) ?_
        refine mx_isub d_G_putInOrder_44 (by unfold mv_r; omega) ?_
        refine mx_iald d_G_putInOrder_45 hG.2.2.2.2.2.2.1 (by omega) (by omega) ?_
        refine mx_iast d_G_putInOrder_46 hG.2.2.2.2.2.2.1 (by omega) (by omega) (by omega) ?_
        refine mx_iinc d_G_putInOrder_47 rfl (by unfold mv_r; omega) ?_
        refine mx_goto 12 d_G_putInOrder_50 (by decide) ?_
        exact ih (fr - 1) _ _ (by omega) (by omega) (by omega) (hfr.put (by omega) (by omega)) hG.pOR (fun p p0 p1 => by rw [mv_sn (by omega)]; exact e1 p p0 (by omega)) (fun p p0 p1 => by
          by_cases hp : p = fr - 1
          · rw [hp, show fr - 1 + 1 = fr by omega, mv_ss, eO]
          · rw [mv_sn (by omega)]; exact e2 p (by omega) p1) (fun p p0 p1 => by
          by_cases hp : p = fr - 1
          · rw [hp]; exact hcb
          · exact e3 p (by omega) p1)
      · skip
        have HH : fr = 0 ∨ ¬ bf_cb t L U Z g (O0 (fr - 1)) := Or.inr hcb
        refine mx_z0 53 d_G_putInOrder_30 (by decide) ?_
        exact k M O fr hfr hG f0 f1 (pu_ins hO g0 f0 f1 bf_cb_tr bf_cb_to e1 e2 e3 HH)
theorem bf_put_plv {Q : List mv_V → mv_M → Prop} {M0 : mv_M} {o : Nat} {cnt t : Int} {L U R D P LP Z GO O : Int → Int} (ho : 2 ≤ o) (hcn : cnt ≤ 64) (hO : pu_ord cnt O (bf_cb t L U Z)) (k : ∀ M' PL', bf_fr M0 M' o (o + 12) → bf_G M' o cnt L U R D P LP Z GO O PL' → pu_ord cnt O (bf_cb t L U Z) → (∀ p, 0 ≤ p → p < cnt → PL' (O p) = p) → Q [] M') (frv : mv_V) : ∀ (d : Nat) (p : Int) (M : mv_M) (PL : Int → Int), cnt - p < d → 0 ≤ p → p ≤ cnt → bf_fr M0 M o (o + 12) → bf_G M o cnt L U R D P LP Z GO O PL → (∀ q, 0 ≤ q → q < p → PL (O q) = q) → mv_W md_G_putInOrder 68 [.inr o, .inl t, .inl p, frv] [] M (0, 0) Q := by
  intro d
  induction d with
  | zero =>
    intro p M PL hd p0 p1 hfr hG hp
    exfalso; omega
  | succ d ih =>
    intro p M PL hd p0 p1 hfr hG hp
    have hinj := pu_inj bf_cb_ir hO
    refine mx_iload_n d_G_putInOrder_68 rfl ?_
    refine mx_aload_n d_G_putInOrder_69 rfl (by omega) ?_
    refine mx_cV0 d_G_putInOrder_70 c_G_79 hG.1 (by decide) (Nat.le_of_ble_eq_true rfl) ?_
    refine bf_size ho hG ?_
    refine mx_icmp_ge 94 d_G_putInOrder_73 (by decide) (fun c73 => ?_) (fun c73 => ?_)
    · skip
      refine mx_return d_G_putInOrder_94 rfl ?_
      exact k M PL hfr hG hO (fun q q0 q1 => hp q q0 (by omega))
    · skip
      have hop := hO.1 p p0 (by omega)
      refine mx_aload_n d_G_putInOrder_76 rfl (by omega) ?_
      refine mx_gl d_G_putInOrder_77 f_G_36 hG.1 rfl ?_
      refine mx_aload_n d_G_putInOrder_80 rfl (by omega) ?_
      refine mx_gl d_G_putInOrder_81 f_G_33 hG.1 rfl ?_
      refine mx_iload_n d_G_putInOrder_84 rfl ?_
      refine mx_iald d_G_putInOrder_85 hG.2.2.2.2.2.2.1 (by omega) (by omega) ?_
      refine mx_iload_n d_G_putInOrder_86 rfl ?_
      refine mx_iast d_G_putInOrder_87 hG.2.2.2.2.2.2.2 (by omega) (by omega) (by omega) ?_
      refine mx_iinc d_G_putInOrder_88 rfl (by unfold mv_r; omega) ?_
      refine mx_goto 68 d_G_putInOrder_91 (by decide) ?_
      exact ih (p + 1) _ _ (by omega) (by omega) (by omega) (hfr.put (by omega) (by omega)) hG.pPL (fun q q0 q1 => by
        by_cases hq : q = p
        · rw [hq, mv_ss]
        · rw [mv_sn (fun e => hq (hinj q p q0 (by omega) p0 (by omega) e))]; exact hp q q0 (by omega))
theorem bf_put_l {Q : List mv_V → mv_M → Prop} {M0 : mv_M} {o : Nat} {cnt t : Int} {L U R D P LP Z GO PL : Int → Int} (ho : 2 ≤ o) (hcn : cnt ≤ 64) (hb : bf_ok cnt L U R D) (ht : t = 0 ∨ t = 1) (k : ∀ M' O PL', bf_fr M0 M' o (o + 12) → bf_G M' o cnt L U R D P LP Z GO O PL' → pu_ord cnt O (bf_cb t L U Z) → (∀ p, 0 ≤ p → p < cnt → PL' (O p) = p) → Q [] M') : ∀ (d : Nat) (g fr : Int) (M : mv_M) (O : Int → Int) (frv : mv_V), cnt - g < d → 0 ≤ g → g ≤ cnt → bf_fr M0 M o (o + 12) → bf_G M o cnt L U R D P LP Z GO O PL → pu_ord g O (bf_cb t L U Z) → mv_W md_G_putInOrder 2 [.inr o, .inl t, .inl g, frv] [] M (0, 0) Q := by
  intro d
  induction d with
  | zero =>
    intro g fr M O frv hd g0 g1 hfr hG hO
    exfalso; omega
  | succ d ih =>
    intro g fr M O frv hd g0 g1 hfr hG hO
    refine mx_iload_n d_G_putInOrder_2 rfl ?_
    refine mx_aload_n d_G_putInOrder_3 rfl (by omega) ?_
    refine mx_cV0 d_G_putInOrder_4 c_G_79 hG.1 (by decide) (Nat.le_of_ble_eq_true rfl) ?_
    refine bf_size ho hG ?_
    refine mx_icmp_ge 66 d_G_putInOrder_7 (by decide) (fun c7 => ?_) (fun c7 => ?_)
    · skip
      refine mx_iconst (0) d_G_putInOrder_66 (by decide +kernel) (by unfold mv_r; omega) ?_
      refine mx_istore_n d_G_putInOrder_67 (by decide) ?_
      obtain rfl : g = cnt := by omega
      exact bf_put_plv (M0 := M0) ho hcn hO (fun M' PL' => k M' O PL') frv (g.toNat + 1) 0 M PL (by omega) (by omega) (by omega) hfr hG (fun q q0 q1 => by omega)
    · skip
      refine mx_iload_n d_G_putInOrder_10 rfl ?_
      refine mx_istore_n d_G_putInOrder_11 (by decide) ?_
      refine bf_put_in (M0 := M0) ho hcn hb ht g0 (by omega) hO ?_ (g.toNat + 1) g M O (by omega) g0 (by omega) hfr hG (fun p _ _ => rfl) (fun p q1 q2 => by omega) (fun p q1 q2 => by omega)
      intro M' O' fr' hfr' hG' f0 f1 hO'
      clear hG hfr
      refine mx_aload_n d_G_putInOrder_53 rfl (by omega) ?_
      refine mx_gl d_G_putInOrder_54 f_G_33 hG'.1 rfl ?_
      refine mx_iload_n d_G_putInOrder_57 rfl ?_
      refine mx_iload_n d_G_putInOrder_58 rfl ?_
      refine mx_iast d_G_putInOrder_59 hG'.2.2.2.2.2.2.1 (by omega) (by omega) (by omega) ?_
      refine mx_iinc d_G_putInOrder_60 rfl (by unfold mv_r; omega) ?_
      refine mx_goto 2 d_G_putInOrder_63 (by decide) ?_
      exact ih (g + 1) 0 _ _ _ (by omega) (by omega) (by omega) (hfr'.put (by omega) (by omega)) hG'.pOR hO'
theorem bf_putInOrder {Q : List mv_V → mv_M → Prop} {M : mv_M} {o : Nat} {cnt : Int} {L U R D P LP Z GO OR PL : Int → Int} (ho : 2 ≤ o) (hG : bf_G M o cnt L U R D P LP Z GO OR PL) (hcn : cnt ≤ 64) (hc0 : 0 ≤ cnt) (hb : bf_ok cnt L U R D) {t : Int} (ht : t = 0 ∨ t = 1) (k : ∀ M' O PL', bf_fr M M' o (o + 12) → bf_G M' o cnt L U R D P LP Z GO O PL' → pu_ord cnt O (bf_cb t L U Z) → (∀ p, 0 ≤ p → p < cnt → PL' (O p) = p) → Q [] M')  : mv_J md_G_putInOrder [.inr o, .inl t] M Q := by
  refine mv_enter (by decide +kernel) (Nat.le_of_ble_eq_true rfl) ?_
  show mv_W md_G_putInOrder 0 [.inr o, .inl t, .inr 0, .inr 0] [] M (0, 0) Q
  refine mx_iconst (0) d_G_putInOrder_0 (by decide +kernel) (by unfold mv_r; omega) ?_
  refine mx_istore_n d_G_putInOrder_1 (by decide) ?_
  exact bf_put_l (M0 := M) ho hcn hb ht k (cnt.toNat + 1) 0 0 M OR (.inr 0) (by omega) (by omega) (by omega) bf_fr.refl hG pu_ord0
end
section
/-! the class: joining -/
def bf_O (M : mv_M) (W H t : Int) : Prop := M.2 2 = .inr (ki_BF, mv_l [.inl W, .inl H, .inr 3, .inr 8, .inr 13, .inr 15, .inr 17, .inr 19, .inr 31, .inr 43, .inr 44, .inr 45, .inr 46, .inl t])
theorem bf_O.fr {M M' : mv_M} {W H t : Int} (h : bf_O M W H t) {a b : Nat} (hf : bf_fr M M' a b) (hd : 3 ≤ a ∨ b ≤ 2) : bf_O M' W H t := by unfold bf_O; rw [hf 2 (by omega)]; exact h
theorem bf_jb_in {Q : List mv_V → mv_M → Prop} {M0 : mv_M} {W H t0 nb t : Int} {BL BU BR BD : Int → Int} {o3 : Nat} (hO0 : bf_O M0 W H t0) (hB0 : bf_R M0 3 64 nb BL BU BR BD) (hb : bf_ok nb BL BU BR BD) (hn0 : 0 ≤ nb) (hn : nb ≤ 64) (h3 : 8 ≤ o3) (ht : t = 0 ∨ t = 1) {i : Int} (i0 : 0 ≤ i) (i1 : i < nb) (k : ∀ M' c f j, bf_fr M0 M' o3 (o3 + 2) → bf_S M' o3 nb c f → nb ≤ j → pu_lab nb (fun a b => (a < i ∨ (a = i ∧ b < j)) ∧ a < b ∧ bf_nb t BL BU BR BD a b) f → c = pu_cnt (fun m => decide (f m = m)) nb.toNat → mv_W md_BF_joinBoxes 68 [.inr 2, .inr o3, .inl t, .inl i, .inl j] [] M' (0, 0) Q) : ∀ (d : Nat) (j : Int) (M : mv_M) (c : Int) (f : Int → Int), nb - j < d → i < j → j ≤ nb → bf_fr M0 M o3 (o3 + 2) → bf_S M o3 nb c f → pu_lab nb (fun a b => (a < i ∨ (a = i ∧ b < j)) ∧ a < b ∧ bf_nb t BL BU BR BD a b) f → c = pu_cnt (fun m => decide (f m = m)) nb.toNat → mv_W md_BF_joinBoxes 29 [.inr 2, .inr o3, .inl t, .inl i, .inl j] [] M (0, 0) Q := by
  intro d
  induction d with
  | zero =>
    intro j M c f h1 h2 h3
    exfalso; omega
  | succ d ih =>
    intro j M c f hd ij j1 hfr hS hI hc
    have hO := hO0.fr hfr (by omega)
    have hBx := hB0.fr hfr (by omega)
    have hcb := pu_cnt_le (fun m => decide (f m = m)) nb.toNat
    rw [← hc] at hcb
    refine mx_iload d_BF_joinBoxes_29 rfl ?_
    refine mx_aload_n d_BF_joinBoxes_31 rfl (by omega) ?_
    refine mx_gl d_BF_joinBoxes_32 f_BF_14 hO rfl ?_
    refine mx_gl d_BF_joinBoxes_35 f_BF_110 hBx.1 rfl ?_
    refine mx_icmp_ge 68 d_BF_joinBoxes_38 (by decide) (fun c38 => ?_) (fun c38 => ?_)
    · skip
      exact k M c f j hfr hS (by omega) hI hc
    · skip
      refine mx_aload_n d_BF_joinBoxes_41 rfl (by omega) ?_
      refine mx_gl d_BF_joinBoxes_42 f_BF_14 hO rfl ?_
      refine mx_iload_n d_BF_joinBoxes_45 rfl ?_
      refine mx_iload d_BF_joinBoxes_46 rfl ?_
      refine mx_iload_n d_BF_joinBoxes_48 rfl ?_
      refine mx_cV3 d_BF_joinBoxes_49 c_BF_160 hBx.1 (by decide) (Nat.le_of_ble_eq_true rfl) ?_
      refine bf_areNearAsBoxes (by omega) hBx hn hb i0 i1 (by omega) (by omega) ht (fun hnb => ?_) (fun hnb => ?_)
      · skip
        refine mx_z1 62 d_BF_joinBoxes_52 (by decide) ?_
        refine mx_aload_n d_BF_joinBoxes_55 rfl (by omega) ?_
        refine mx_iload_n d_BF_joinBoxes_56 rfl ?_
        refine mx_iload d_BF_joinBoxes_57 rfl ?_
        refine mx_cV2 d_BF_joinBoxes_59 c_BF_164 hS.1 (by decide) (Nat.le_of_ble_eq_true rfl) ?_
        have hlab := hI.1
        have hli := hlab i i0 i1
        have hlj := hlab j (by omega) (by omega)
        refine bf_join (by omega) hS hn (by omega) (by omega) i0 i1 (by omega) (by omega) (by unfold mv_r; omega) (by unfold mv_r; omega) (fun hs => ?_) (fun M' f' hne hfr' hS' hf' => ?_)
        · skip
          have hfr2 := hfr
          have hS2 := hS
          have hI2 := (pu_lab_same hI i0 ij (by omega) hs).resolve_right (fun h => h hnb)
          have hc2 := hc
          refine mx_iinc d_BF_joinBoxes_62 rfl (by unfold mv_r; omega) ?_
          refine mx_goto 29 d_BF_joinBoxes_65 (by decide) ?_
          exact ih (j + 1) _ _ _ (by omega) (by omega) (by omega) hfr2 hS2 hI2 hc2
        · skip
          have hfr2 := hfr.trans hfr'
          have hS2 := hS'
          have hI2 := pu_lab_next hI i0 ij (by omega) hnb hf'
          have hc2 : c - 1 = pu_cnt (fun m => decide (f' m = m)) nb.toNat := by
            rw [hc, ← pu_join_cnt hI i0 i1 (by omega) (by omega) hne]
            exact pu_cnt_congr (fun m m0 m1 => by rw [hf' m m0 (by omega)])
          refine mx_iinc d_BF_joinBoxes_62 rfl (by unfold mv_r; omega) ?_
          refine mx_goto 29 d_BF_joinBoxes_65 (by decide) ?_
          exact ih (j + 1) _ _ _ (by omega) (by omega) (by omega) hfr2 hS2 hI2 hc2
      · skip
        have hfr2 := hfr
        have hS2 := hS
        have hI2 := pu_lab_not hI hnb
        have hc2 := hc
        refine mx_z0 62 d_BF_joinBoxes_52 (by decide) ?_
        refine mx_iinc d_BF_joinBoxes_62 rfl (by unfold mv_r; omega) ?_
        refine mx_goto 29 d_BF_joinBoxes_65 (by decide) ?_
        exact ih (j + 1) _ _ _ (by omega) (by omega) (by omega) hfr2 hS2 hI2 hc2
theorem bf_jb_out {Q : List mv_V → mv_M → Prop} {M0 : mv_M} {W H t0 nb t : Int} {BL BU BR BD : Int → Int} {o3 : Nat} (hO0 : bf_O M0 W H t0) (hB0 : bf_R M0 3 64 nb BL BU BR BD) (hb : bf_ok nb BL BU BR BD) (hn0 : 0 ≤ nb) (hn : nb ≤ 64) (h3 : 8 ≤ o3) (ht : t = 0 ∨ t = 1) (k : ∀ M' c f, bf_fr M0 M' o3 (o3 + 2) → bf_S M' o3 nb c f → pu_lab nb (fun a b => a < b ∧ bf_nb t BL BU BR BD a b) f → c = pu_cnt (fun m => decide (f m = m)) nb.toNat → Q [] M') : ∀ (d : Nat) (i : Int) (M : mv_M) (c : Int) (f : Int → Int) (jv : mv_V), nb - i < d → 0 ≤ i → i ≤ nb → bf_fr M0 M o3 (o3 + 2) → bf_S M o3 nb c f → pu_lab nb (fun a b => (a < i ∨ (a = i ∧ b < i + 1)) ∧ a < b ∧ bf_nb t BL BU BR BD a b) f → c = pu_cnt (fun m => decide (f m = m)) nb.toNat → mv_W md_BF_joinBoxes 13 [.inr 2, .inr o3, .inl t, .inl i, jv] [] M (0, 0) Q := by
  intro d
  induction d with
  | zero =>
    intro i M c f jv h1 h2 h3
    exfalso; omega
  | succ d ih =>
    intro i M c f jv hd i0 i1 hfr hS hI hc
    have hO := hO0.fr hfr (by omega)
    have hBx := hB0.fr hfr (by omega)
    have hcb := pu_cnt_le (fun m => decide (f m = m)) nb.toNat
    rw [← hc] at hcb
    refine mx_iload_n d_BF_joinBoxes_13 rfl ?_
    refine mx_aload_n d_BF_joinBoxes_14 rfl (by omega) ?_
    refine mx_gl d_BF_joinBoxes_15 f_BF_14 hO rfl ?_
    refine mx_gl d_BF_joinBoxes_18 f_BF_110 hBx.1 rfl ?_
    refine mx_icmp_ge 74 d_BF_joinBoxes_21 (by decide) (fun c21 => ?_) (fun c21 => ?_)
    · skip
      refine mx_return d_BF_joinBoxes_74 rfl ?_
      exact k M c f hfr hS (pu_lab_all hI (by omega)) hc
    · skip
      refine mx_iload_n d_BF_joinBoxes_24 rfl ?_
      refine mx_iconst (1) d_BF_joinBoxes_25 (by decide +kernel) (by unfold mv_r; omega) ?_
      refine mx_iadd d_BF_joinBoxes_26 (by unfold mv_r; omega) ?_
      refine mx_istore d_BF_joinBoxes_27 (by decide) ?_
      refine bf_jb_in hO0 hB0 hb hn0 hn h3 ht i0 (by omega) ?_ (nb.toNat + 1) (i + 1) M c f (by omega) (by omega) (by omega) hfr hS hI hc
      intro M' c' f' j' hfr' hS' hj' hI' hc'
      refine mx_iinc d_BF_joinBoxes_68 rfl (by unfold mv_r; omega) ?_
      refine mx_goto 13 d_BF_joinBoxes_71 (by decide) ?_
      exact ih (i + 1) M' c' f' _ (by omega) (by omega) (by omega) hfr' hS' (pu_lab_row hI' hj') hc'
theorem bf_joinBoxes {Q : List mv_V → mv_M → Prop} {M : mv_M} {W H t0 nb t : Int} {BL BU BR BD : Int → Int} {o3 : Nat} (hO : bf_O M W H t0) (hBx : bf_R M 3 64 nb BL BU BR BD) (hb : bf_ok nb BL BU BR BD) (hn0 : 0 ≤ nb) (hn : nb ≤ 64) (h3 : 8 ≤ o3) (ht : t = 0 ∨ t = 1) {mem sc : Int} {f0 : Int → Int} (hS : bf_S M o3 mem sc f0) (k : ∀ M' c f, bf_fr M M' o3 (o3 + 2) → bf_S M' o3 nb c f → pu_lab nb (fun a b => a < b ∧ bf_nb t BL BU BR BD a b) f → c = pu_cnt (fun m => decide (f m = m)) nb.toNat → Q [] M') : mv_J md_BF_joinBoxes [.inr 2, .inr o3, .inl t] M Q := by
  refine mv_enter (by decide +kernel) (Nat.le_of_ble_eq_true rfl) ?_
  show mv_W md_BF_joinBoxes 0 [.inr 2, .inr o3, .inl t, .inr 0, .inr 0] [] M (0, 0) Q
  refine mx_aload_n d_BF_joinBoxes_0 rfl (by omega) ?_
  refine mx_aload_n d_BF_joinBoxes_1 rfl (by omega) ?_
  refine mx_gl d_BF_joinBoxes_2 f_BF_14 hO rfl ?_
  refine mx_gl d_BF_joinBoxes_5 f_BF_110 hBx.1 rfl ?_
  refine mx_cV1 d_BF_joinBoxes_8 c_BF_157 hS.1 (by decide) (Nat.le_of_ble_eq_true rfl) ?_
  refine bf_scatter (by omega) hS hn0 hn (fun M' f hfr hS' hf => ?_)
  refine mx_iconst (0) d_BF_joinBoxes_11 (by decide +kernel) (by unfold mv_r; omega) ?_
  refine mx_istore_n d_BF_joinBoxes_12 (by decide) ?_
  exact bf_jb_out hO hBx hb hn0 hn h3 ht k (nb.toNat + 1) 0 M' nb f (.inr 0) (by omega) (by omega) hn0 hfr hS' (pu_lab_begin hf) (by rw [pu_cnt_id (fun j j0 j1 => hf j j0 (by omega))]; omega)
end
section
/-! the class: joining lines; judging -/
theorem bf_jl_in {Q : List mv_V → mv_M → Prop} {M0 : mv_M} {W H nl t : Int} {LL LU LR LD LP LM LZ LG LO LX : Int → Int} (hO0 : bf_O M0 W H t) (hL0 : bf_G M0 19 nl LL LU LR LD LP LM LZ LG LO LX) (hb : bf_ok nl LL LU LR LD) (hn0 : 0 ≤ nl) (hn : nl ≤ 64) (ht : t = 0 ∨ t = 1) {i : Int} (i0 : 0 ≤ i) (i1 : i < nl) (k : ∀ M' c f j, bf_fr M0 M' 17 19 → bf_S M' 17 nl c f → nl ≤ j → pu_lab nl (fun a b => (a < i ∨ (a = i ∧ b < j)) ∧ a < b ∧ bf_nl t LL LU LR LD a b) f → c = pu_cnt (fun m => decide (f m = m)) nl.toNat → mv_W md_BF_joinLines 76 [.inr 2, .inl i, .inl j] [] M' (0, 0) Q) : ∀ (d : Nat) (j : Int) (M : mv_M) (c : Int) (f : Int → Int), nl - j < d → i < j → j ≤ nl → bf_fr M0 M 17 19 → bf_S M 17 nl c f → pu_lab nl (fun a b => (a < i ∨ (a = i ∧ b < j)) ∧ a < b ∧ bf_nl t LL LU LR LD a b) f → c = pu_cnt (fun m => decide (f m = m)) nl.toNat → mv_W md_BF_joinLines 31 [.inr 2, .inl i, .inl j] [] M (0, 0) Q := by
  intro d
  induction d with
  | zero =>
    intro j M c f h1 h2 h3
    exfalso; omega
  | succ d ih =>
    intro j M c f hd ij j1 hfr hS hI hc
    have hO := hO0.fr hfr (by omega)
    have hLn := hL0.fr hfr (by omega)
    have hcb := pu_cnt_le (fun m => decide (f m = m)) nl.toNat
    rw [← hc] at hcb
    refine mx_iload_n d_BF_joinLines_31 rfl ?_
    refine mx_aload_n d_BF_joinLines_32 rfl (by omega) ?_
    refine mx_gl d_BF_joinLines_33 f_BF_37 hO rfl ?_
    refine mx_cV0 d_BF_joinLines_36 c_BF_96 hLn.1 (by decide) (Nat.le_of_ble_eq_true rfl) ?_
    refine bf_size (by omega) hLn ?_
    refine mx_icmp_ge 76 d_BF_joinLines_39 (by decide) (fun c39 => ?_) (fun c39 => ?_)
    · skip
      exact k M c f j hfr hS (by omega) hI hc
    · skip
      refine mx_aload_n d_BF_joinLines_42 rfl (by omega) ?_
      refine mx_gl d_BF_joinLines_43 f_BF_37 hO rfl ?_
      refine mx_gl d_BF_joinLines_46 f_BF_90 hLn.1 rfl ?_
      refine mx_iload_n d_BF_joinLines_49 rfl ?_
      refine mx_iload_n d_BF_joinLines_50 rfl ?_
      refine mx_aload_n d_BF_joinLines_51 rfl (by omega) ?_
      refine mx_gl d_BF_joinLines_52 f_BF_57 hO rfl ?_
      refine mx_cV3 d_BF_joinLines_55 c_BF_168 hLn.2.1.1 (by decide) (Nat.le_of_ble_eq_true rfl) ?_
      refine bf_areNearAsLines (by omega) hLn.2.1 hn hb i0 i1 (by omega) (by omega) ht (fun hnb => ?_) (fun hnb => ?_)
      · skip
        refine mx_z1 70 d_BF_joinLines_58 (by decide) ?_
        refine mx_aload_n d_BF_joinLines_61 rfl (by omega) ?_
        refine mx_gl d_BF_joinLines_62 f_BF_31 hO rfl ?_
        refine mx_iload_n d_BF_joinLines_65 rfl ?_
        refine mx_iload_n d_BF_joinLines_66 rfl ?_
        refine mx_cV2 d_BF_joinLines_67 c_BF_164 hS.1 (by decide) (Nat.le_of_ble_eq_true rfl) ?_
        have hlab := hI.1
        have hli := hlab i i0 i1
        have hlj := hlab j (by omega) (by omega)
        refine bf_join (by omega) hS hn (by omega) (by omega) i0 i1 (by omega) (by omega) (by unfold mv_r; omega) (by unfold mv_r; omega) (fun hs => ?_) (fun M' f' hne hfr' hS' hf' => ?_)
        · skip
          have hfr2 := hfr
          have hS2 := hS
          have hI2 := (pu_lab_same hI i0 ij (by omega) hs).resolve_right (fun h => h hnb)
          have hc2 := hc
          refine mx_iinc d_BF_joinLines_70 rfl (by unfold mv_r; omega) ?_
          refine mx_goto 31 d_BF_joinLines_73 (by decide) ?_
          exact ih (j + 1) _ _ _ (by omega) (by omega) (by omega) hfr2 hS2 hI2 hc2
        · skip
          have hfr2 := hfr.trans hfr'
          have hS2 := hS'
          have hI2 := pu_lab_next hI i0 ij (by omega) hnb hf'
          have hc2 : c - 1 = pu_cnt (fun m => decide (f' m = m)) nl.toNat := by
            rw [hc, ← pu_join_cnt hI i0 i1 (by omega) (by omega) hne]
            exact pu_cnt_congr (fun m m0 m1 => by rw [hf' m m0 (by omega)])
          refine mx_iinc d_BF_joinLines_70 rfl (by unfold mv_r; omega) ?_
          refine mx_goto 31 d_BF_joinLines_73 (by decide) ?_
          exact ih (j + 1) _ _ _ (by omega) (by omega) (by omega) hfr2 hS2 hI2 hc2
      · skip
        have hfr2 := hfr
        have hS2 := hS
        have hI2 := pu_lab_not hI hnb
        have hc2 := hc
        refine mx_z0 70 d_BF_joinLines_58 (by decide) ?_
        refine mx_iinc d_BF_joinLines_70 rfl (by unfold mv_r; omega) ?_
        refine mx_goto 31 d_BF_joinLines_73 (by decide) ?_
        exact ih (j + 1) _ _ _ (by omega) (by omega) (by omega) hfr2 hS2 hI2 hc2
theorem bf_jl_out {Q : List mv_V → mv_M → Prop} {M0 : mv_M} {W H nl t : Int} {LL LU LR LD LP LM LZ LG LO LX : Int → Int} (hO0 : bf_O M0 W H t) (hL0 : bf_G M0 19 nl LL LU LR LD LP LM LZ LG LO LX) (hb : bf_ok nl LL LU LR LD) (hn0 : 0 ≤ nl) (hn : nl ≤ 64) (ht : t = 0 ∨ t = 1) (k : ∀ M' c f, bf_fr M0 M' 17 19 → bf_S M' 17 nl c f → pu_lab nl (fun a b => a < b ∧ bf_nl t LL LU LR LD a b) f → c = pu_cnt (fun m => decide (f m = m)) nl.toNat → Q [] M') : ∀ (d : Nat) (i : Int) (M : mv_M) (c : Int) (f : Int → Int) (jv : mv_V), nl - i < d → 0 ≤ i → i ≤ nl → bf_fr M0 M 17 19 → bf_S M 17 nl c f → pu_lab nl (fun a b => (a < i ∨ (a = i ∧ b < i + 1)) ∧ a < b ∧ bf_nl t LL LU LR LD a b) f → c = pu_cnt (fun m => decide (f m = m)) nl.toNat → mv_W md_BF_joinLines 16 [.inr 2, .inl i, jv] [] M (0, 0) Q := by
  intro d
  induction d with
  | zero =>
    intro i M c f jv h1 h2 h3
    exfalso; omega
  | succ d ih =>
    intro i M c f jv hd i0 i1 hfr hS hI hc
    have hO := hO0.fr hfr (by omega)
    have hLn := hL0.fr hfr (by omega)
    have hcb := pu_cnt_le (fun m => decide (f m = m)) nl.toNat
    rw [← hc] at hcb
    refine mx_iload_n d_BF_joinLines_16 rfl ?_
    refine mx_aload_n d_BF_joinLines_17 rfl (by omega) ?_
    refine mx_gl d_BF_joinLines_18 f_BF_37 hO rfl ?_
    refine mx_cV0 d_BF_joinLines_21 c_BF_96 hLn.1 (by decide) (Nat.le_of_ble_eq_true rfl) ?_
    refine bf_size (by omega) hLn ?_
    refine mx_icmp_ge 82 d_BF_joinLines_24 (by decide) (fun c24 => ?_) (fun c24 => ?_)
    · skip
      refine mx_return d_BF_joinLines_82 rfl ?_
      exact k M c f hfr hS (pu_lab_all hI (by omega)) hc
    · skip
      refine mx_iload_n d_BF_joinLines_27 rfl ?_
      refine mx_iconst (1) d_BF_joinLines_28 (by decide +kernel) (by unfold mv_r; omega) ?_
      refine mx_iadd d_BF_joinLines_29 (by unfold mv_r; omega) ?_
      refine mx_istore_n d_BF_joinLines_30 (by decide) ?_
      refine bf_jl_in hO0 hL0 hb hn0 hn ht i0 (by omega) ?_ (nl.toNat + 1) (i + 1) M c f (by omega) (by omega) (by omega) hfr hS hI hc
      intro M' c' f' j' hfr' hS' hj' hI' hc'
      refine mx_iinc d_BF_joinLines_76 rfl (by unfold mv_r; omega) ?_
      refine mx_goto 16 d_BF_joinLines_79 (by decide) ?_
      exact ih (i + 1) M' c' f' _ (by omega) (by omega) (by omega) hfr' hS' (pu_lab_row hI' hj') hc'
theorem bf_joinLines {Q : List mv_V → mv_M → Prop} {M : mv_M} {W H nl t : Int} {LL LU LR LD LP LM LZ LG LO LX : Int → Int} (hO : bf_O M W H t) (hLn : bf_G M 19 nl LL LU LR LD LP LM LZ LG LO LX) (hb : bf_ok nl LL LU LR LD) (hn0 : 0 ≤ nl) (hn : nl ≤ 64) (ht : t = 0 ∨ t = 1) {mem sc : Int} {f0 : Int → Int} (hS : bf_S M 17 mem sc f0) (k : ∀ M' c f, bf_fr M M' 17 19 → bf_S M' 17 nl c f → pu_lab nl (fun a b => a < b ∧ bf_nl t LL LU LR LD a b) f → c = pu_cnt (fun m => decide (f m = m)) nl.toNat → Q [] M') : mv_J md_BF_joinLines [.inr 2] M Q := by
  refine mv_enter (by decide +kernel) (Nat.le_of_ble_eq_true rfl) ?_
  show mv_W md_BF_joinLines 0 [.inr 2, .inr 0, .inr 0] [] M (0, 0) Q
  refine mx_aload_n d_BF_joinLines_0 rfl (by omega) ?_
  refine mx_gl d_BF_joinLines_1 f_BF_31 hO rfl ?_
  refine mx_aload_n d_BF_joinLines_4 rfl (by omega) ?_
  refine mx_gl d_BF_joinLines_5 f_BF_37 hO rfl ?_
  refine mx_cV0 d_BF_joinLines_8 c_BF_96 hLn.1 (by decide) (Nat.le_of_ble_eq_true rfl) ?_
  refine bf_size (by omega) hLn ?_
  refine mx_cV1 d_BF_joinLines_11 c_BF_157 hS.1 (by decide) (Nat.le_of_ble_eq_true rfl) ?_
  refine bf_scatter (by omega) hS hn0 hn (fun M' f hfr hS' hf => ?_)
  refine mx_iconst (0) d_BF_joinLines_14 (by decide +kernel) (by unfold mv_r; omega) ?_
  refine mx_istore_n d_BF_joinLines_15 (by decide) ?_
  exact bf_jl_out hO hLn hb hn0 hn ht k (nl.toNat + 1) 0 M' nl f (.inr 0) (by omega) (by omega) hn0 hfr hS' (pu_lab_begin hf) (by rw [pu_cnt_id (fun j j0 j1 => hf j j0 (by omega))]; omega)
theorem bf_groupOfBox {Q : List mv_V → mv_M → Prop} {M : mv_M} {W H t : Int} (hO : bf_O M W H t) {nl : Int} {LL LU LR LD LP LM LZ LG LO LX : Int → Int} (hLn : bf_G M 19 nl LL LU LR LD LP LM LZ LG LO LX) {nk : Int} {KL KU KR KD KP KM KZ KG KO KX : Int → Int} (hBk : bf_G M 31 nk KL KU KR KD KP KM KZ KG KO KX) {i : Int} (i0 : 0 ≤ i) (i1 : i < 64) (g0 : 0 ≤ LG i) (g1 : LG i < 64) (k : Q [.inl (KG (LG i))] M)  : mv_J md_BF_groupOfBox [.inr 2, .inl i] M Q := by
  refine mv_enter (by decide +kernel) (Nat.le_of_ble_eq_true rfl) ?_
  show mv_W md_BF_groupOfBox 0 [.inr 2, .inl i] [] M (0, 0) Q
  refine mx_aload_n d_BF_groupOfBox_0 rfl (by omega) ?_
  refine mx_gl d_BF_groupOfBox_1 f_BF_41 hO rfl ?_
  refine mx_gl d_BF_groupOfBox_4 f_BF_171 hBk.1 rfl ?_
  refine mx_aload_n d_BF_groupOfBox_7 rfl (by omega) ?_
  refine mx_gl d_BF_groupOfBox_8 f_BF_37 hO rfl ?_
  refine mx_gl d_BF_groupOfBox_11 f_BF_171 hLn.1 rfl ?_
  refine mx_iload_n d_BF_groupOfBox_14 rfl ?_
  refine mx_iald d_BF_groupOfBox_15 hLn.2.2.2.2.2.1 (by omega) (by omega) ?_
  refine mx_iald d_BF_groupOfBox_16 hBk.2.2.2.2.2.1 (by omega) (by omega) ?_
  refine mx_ireturn d_BF_groupOfBox_17 rfl ?_
  exact k
def bf_stamp (W H : Int) (KL KD : Int → Int) (b : Int) : Prop := 3 * W ≤ 4 * KL b ∧ 3 * KD b ≤ H
def bf_sender (W H : Int) (KR KD : Int → Int) (b : Int) : Prop := 2 * KR b ≤ W ∧ 4 * KD b ≤ H
theorem bf_isStamp {Q : List mv_V → mv_M → Prop} {M : mv_M} {W H t : Int} (hO : bf_O M W H t) {nk : Int} {KL KU KR KD KP KM KZ KG KO KX : Int → Int} (hBk : bf_G M 31 nk KL KU KR KD KP KM KZ KG KO KX) (w1 : 1 ≤ W) (w2 : W ≤ 4096) (h1 : 1 ≤ H) (h2 : H ≤ 4096) {b : Int} (b0 : 0 ≤ b) (b1 : b < nk) (hnk : nk ≤ 64) (hb : bf_ok nk KL KU KR KD) (k1 : bf_stamp W H KL KD b → Q [.inl 1] M) (k0 : ¬ bf_stamp W H KL KD b → Q [.inl 0] M)  : mv_J md_BF_isStamp [.inr 2, .inl b] M Q := by
  refine mv_enter (by decide +kernel) (Nat.le_of_ble_eq_true rfl) ?_
  show mv_W md_BF_isStamp 0 [.inr 2, .inl b] [] M (0, 0) Q
  have hbb := hb b b0 b1
  refine mx_iconst (4) d_BF_isStamp_0 (by decide +kernel) (by unfold mv_r; omega) ?_
  refine mx_aload_n d_BF_isStamp_1 rfl (by omega) ?_
  refine mx_gl d_BF_isStamp_2 f_BF_41 hO rfl ?_
  refine mx_gl d_BF_isStamp_5 f_BF_90 hBk.1 rfl ?_
  refine mx_gl d_BF_isStamp_8 f_BF_187 hBk.2.1.1 rfl ?_
  refine mx_iload_n d_BF_isStamp_11 rfl ?_
  refine mx_iald d_BF_isStamp_12 hBk.2.1.2.1 (by omega) (by omega) ?_
  refine mx_imul d_BF_isStamp_13 (by unfold mv_r; omega) ?_
  refine mx_iconst (3) d_BF_isStamp_14 (by decide +kernel) (by unfold mv_r; omega) ?_
  refine mx_aload_n d_BF_isStamp_15 rfl (by omega) ?_
  refine mx_gl d_BF_isStamp_16 f_BF_65 hO rfl ?_
  refine mx_imul d_BF_isStamp_19 (by unfold mv_r; omega) ?_
  refine mx_icmp_lt 48 d_BF_isStamp_20 (by decide) (fun c20 => ?_) (fun c20 => ?_)
  · skip
    refine mx_iconst (0) d_BF_isStamp_48 (by decide +kernel) (by unfold mv_r; omega) ?_
    refine mx_zreturn d_BF_isStamp_49 rfl (by omega) ?_
    first | exact k1 (by unfold bf_stamp; omega) | exact k0 (by unfold bf_stamp; omega)
  · skip
    refine mx_iconst (3) d_BF_isStamp_23 (by decide +kernel) (by unfold mv_r; omega) ?_
    refine mx_aload_n d_BF_isStamp_24 rfl (by omega) ?_
    refine mx_gl d_BF_isStamp_25 f_BF_41 hO rfl ?_
    refine mx_gl d_BF_isStamp_28 f_BF_90 hBk.1 rfl ?_
    refine mx_gl d_BF_isStamp_31 f_BF_196 hBk.2.1.1 rfl ?_
    refine mx_iload_n d_BF_isStamp_34 rfl ?_
    refine mx_iald d_BF_isStamp_35 hBk.2.1.2.2.2.2 (by omega) (by omega) ?_
    refine mx_imul d_BF_isStamp_36 (by unfold mv_r; omega) ?_
    refine mx_aload_n d_BF_isStamp_37 rfl (by omega) ?_
    refine mx_gl d_BF_isStamp_38 f_BF_69 hO rfl ?_
    refine mx_icmp_gt 48 d_BF_isStamp_41 (by decide) (fun c41 => ?_) (fun c41 => ?_)
    · skip
      refine mx_iconst (0) d_BF_isStamp_48 (by decide +kernel) (by unfold mv_r; omega) ?_
      refine mx_zreturn d_BF_isStamp_49 rfl (by omega) ?_
      first | exact k1 (by unfold bf_stamp; omega) | exact k0 (by unfold bf_stamp; omega)
    · skip
      refine mx_iconst (1) d_BF_isStamp_44 (by decide +kernel) (by unfold mv_r; omega) ?_
      refine mx_goto 49 d_BF_isStamp_45 (by decide) ?_
      refine mx_zreturn d_BF_isStamp_49 rfl (by omega) ?_
      first | exact k1 (by unfold bf_stamp; omega) | exact k0 (by unfold bf_stamp; omega)
theorem bf_isSender {Q : List mv_V → mv_M → Prop} {M : mv_M} {W H t : Int} (hO : bf_O M W H t) {nk : Int} {KL KU KR KD KP KM KZ KG KO KX : Int → Int} (hBk : bf_G M 31 nk KL KU KR KD KP KM KZ KG KO KX) (w1 : 1 ≤ W) (w2 : W ≤ 4096) (h1 : 1 ≤ H) (h2 : H ≤ 4096) {b : Int} (b0 : 0 ≤ b) (b1 : b < nk) (hnk : nk ≤ 64) (hb : bf_ok nk KL KU KR KD) (k1 : bf_sender W H KR KD b → Q [.inl 1] M) (k0 : ¬ bf_sender W H KR KD b → Q [.inl 0] M)  : mv_J md_BF_isSender [.inr 2, .inl b] M Q := by
  refine mv_enter (by decide +kernel) (Nat.le_of_ble_eq_true rfl) ?_
  show mv_W md_BF_isSender 0 [.inr 2, .inl b] [] M (0, 0) Q
  have hbb := hb b b0 b1
  refine mx_iconst (2) d_BF_isSender_0 (by decide +kernel) (by unfold mv_r; omega) ?_
  refine mx_aload_n d_BF_isSender_1 rfl (by omega) ?_
  refine mx_gl d_BF_isSender_2 f_BF_41 hO rfl ?_
  refine mx_gl d_BF_isSender_5 f_BF_90 hBk.1 rfl ?_
  refine mx_gl d_BF_isSender_8 f_BF_190 hBk.2.1.1 rfl ?_
  refine mx_iload_n d_BF_isSender_11 rfl ?_
  refine mx_iald d_BF_isSender_12 hBk.2.1.2.2.2.1 (by omega) (by omega) ?_
  refine mx_imul d_BF_isSender_13 (by unfold mv_r; omega) ?_
  refine mx_aload_n d_BF_isSender_14 rfl (by omega) ?_
  refine mx_gl d_BF_isSender_15 f_BF_65 hO rfl ?_
  refine mx_icmp_gt 46 d_BF_isSender_18 (by decide) (fun c18 => ?_) (fun c18 => ?_)
  · skip
    refine mx_iconst (0) d_BF_isSender_46 (by decide +kernel) (by unfold mv_r; omega) ?_
    refine mx_zreturn d_BF_isSender_47 rfl (by omega) ?_
    first | exact k1 (by unfold bf_sender; omega) | exact k0 (by unfold bf_sender; omega)
  · skip
    refine mx_iconst (4) d_BF_isSender_21 (by decide +kernel) (by unfold mv_r; omega) ?_
    refine mx_aload_n d_BF_isSender_22 rfl (by omega) ?_
    refine mx_gl d_BF_isSender_23 f_BF_41 hO rfl ?_
    refine mx_gl d_BF_isSender_26 f_BF_90 hBk.1 rfl ?_
    refine mx_gl d_BF_isSender_29 f_BF_196 hBk.2.1.1 rfl ?_
    refine mx_iload_n d_BF_isSender_32 rfl ?_
    refine mx_iald d_BF_isSender_33 hBk.2.1.2.2.2.2 (by omega) (by omega) ?_
    refine mx_imul d_BF_isSender_34 (by unfold mv_r; omega) ?_
    refine mx_aload_n d_BF_isSender_35 rfl (by omega) ?_
    refine mx_gl d_BF_isSender_36 f_BF_69 hO rfl ?_
    refine mx_icmp_gt 46 d_BF_isSender_39 (by decide) (fun c39 => ?_) (fun c39 => ?_)
    · skip
      refine mx_iconst (0) d_BF_isSender_46 (by decide +kernel) (by unfold mv_r; omega) ?_
      refine mx_zreturn d_BF_isSender_47 rfl (by omega) ?_
      first | exact k1 (by unfold bf_sender; omega) | exact k0 (by unfold bf_sender; omega)
    · skip
      refine mx_iconst (1) d_BF_isSender_42 (by decide +kernel) (by unfold mv_r; omega) ?_
      refine mx_goto 47 d_BF_isSender_43 (by decide) ?_
      refine mx_zreturn d_BF_isSender_47 rfl (by omega) ?_
      first | exact k1 (by unfold bf_sender; omega) | exact k0 (by unfold bf_sender; omega)
def bf_enc (NL NU NR ND KL KU KR KD : Int → Int) (p b : Int) : Prop := NL p ≤ KL b ∧ KR b ≤ NR p ∧ NU p ≤ KU b ∧ KD b ≤ ND p
def bf_inp (np : Int) (NL NU NR ND KL KU KR KD : Int → Int) (b : Int) : Prop := ∃ p, 0 ≤ p ∧ p < np ∧ bf_enc NL NU NR ND KL KU KR KD p b
theorem bf_lip_l {Q : List mv_V → mv_M → Prop} {W H t : Int} {M : mv_M} (hO : bf_O M W H t) {nk : Int} {KL KU KR KD KP KM KZ KG KO KX : Int → Int} (hBk : bf_G M 31 nk KL KU KR KD KP KM KZ KG KO KX) {np : Int} {NL NU NR ND : Int → Int} (hPn : bf_R M 8 8 np NL NU NR ND) (np0 : 0 ≤ np) (np8 : np ≤ 8) {b : Int} (b0 : 0 ≤ b) (b1 : b < 64) (k1 : bf_inp np NL NU NR ND KL KU KR KD b → Q [.inl 1] M) (k0 : ¬ bf_inp np NL NU NR ND KL KU KR KD b → Q [.inl 0] M) : ∀ (d : Nat) (p : Int), np - p < d → 0 ≤ p → p ≤ np → (∀ q, 0 ≤ q → q < p → ¬ bf_enc NL NU NR ND KL KU KR KD q b) → mv_W md_BF_liesInPane 2 [.inr 2, .inl b, .inl p] [] M (0, 0) Q := by
  intro d
  induction d with
  | zero =>
    intro p hd p0 p1 hp
    exfalso; omega
  | succ d ih =>
    intro p hd p0 p1 hp
    refine mx_iload_n d_BF_liesInPane_2 rfl ?_
    refine mx_aload_n d_BF_liesInPane_3 rfl (by omega) ?_
    refine mx_gl d_BF_liesInPane_4 f_BF_18 hO rfl ?_
    refine mx_gl d_BF_liesInPane_7 f_BF_110 hPn.1 rfl ?_
    refine mx_icmp_ge 40 d_BF_liesInPane_10 (by decide) (fun c10 => ?_) (fun c10 => ?_)
    · skip
      refine mx_iconst (0) d_BF_liesInPane_40 (by decide +kernel) (by unfold mv_r; omega) ?_
      refine mx_zreturn d_BF_liesInPane_41 rfl (by omega) ?_
      exact k0 (fun ⟨q, q0, q1, he⟩ => hp q q0 (by omega) he)
    · skip
      refine mx_aload_n d_BF_liesInPane_13 rfl (by omega) ?_
      refine mx_gl d_BF_liesInPane_14 f_BF_18 hO rfl ?_
      refine mx_iload_n d_BF_liesInPane_17 rfl ?_
      refine mx_aload_n d_BF_liesInPane_18 rfl (by omega) ?_
      refine mx_gl d_BF_liesInPane_19 f_BF_41 hO rfl ?_
      refine mx_gl d_BF_liesInPane_22 f_BF_90 hBk.1 rfl ?_
      refine mx_iload_n d_BF_liesInPane_25 rfl ?_
      refine mx_cV3 d_BF_liesInPane_26 c_BF_202 hPn.1 (by decide) (Nat.le_of_ble_eq_true rfl) ?_
      refine bf_encloses (by omega) hPn (by omega) hBk.2.1 p0 (by omega) b0 (by omega) (fun he => ?_) (fun he => ?_)
      · skip
        refine mx_z1 34 d_BF_liesInPane_29 (by decide) ?_
        refine mx_iconst (1) d_BF_liesInPane_32 (by decide +kernel) (by unfold mv_r; omega) ?_
        refine mx_zreturn d_BF_liesInPane_33 rfl (by omega) ?_
        exact k1 ⟨p, p0, by omega, he⟩
      · skip
        refine mx_z0 34 d_BF_liesInPane_29 (by decide) ?_
        refine mx_iinc d_BF_liesInPane_34 rfl (by unfold mv_r; omega) ?_
        refine mx_goto 2 d_BF_liesInPane_37 (by decide) ?_
        exact ih (p + 1) (by omega) (by omega) (by omega) (fun q q0 q1 => by
          by_cases hq : q = p
          · rw [hq]; exact he
          · exact hp q q0 (by omega))
theorem bf_liesInPane {Q : List mv_V → mv_M → Prop} {M : mv_M} {W H t : Int} (hO : bf_O M W H t) {nk : Int} {KL KU KR KD KP KM KZ KG KO KX : Int → Int} (hBk : bf_G M 31 nk KL KU KR KD KP KM KZ KG KO KX) {np : Int} {NL NU NR ND : Int → Int} (hPn : bf_R M 8 8 np NL NU NR ND) (np0 : 0 ≤ np) (np8 : np ≤ 8) {b : Int} (b0 : 0 ≤ b) (b1 : b < 64) (k1 : bf_inp np NL NU NR ND KL KU KR KD b → Q [.inl 1] M) (k0 : ¬ bf_inp np NL NU NR ND KL KU KR KD b → Q [.inl 0] M)  : mv_J md_BF_liesInPane [.inr 2, .inl b] M Q := by
  refine mv_enter (by decide +kernel) (Nat.le_of_ble_eq_true rfl) ?_
  show mv_W md_BF_liesInPane 0 [.inr 2, .inl b, .inr 0] [] M (0, 0) Q
  refine mx_iconst (0) d_BF_liesInPane_0 (by decide +kernel) (by unfold mv_r; omega) ?_
  refine mx_istore_n d_BF_liesInPane_1 (by decide) ?_
  exact bf_lip_l hO hBk hPn np0 np8 b0 b1 k1 k0 (np.toNat + 1) 0 (by omega) (by omega) np0 (fun q q0 q1 => by omega)
def bf_if (c : Prop) (x : Int) (r : Int) : Prop := (c ∧ r = x) ∨ (¬ c ∧ r = 0)
theorem bf_j161 {Q : List mv_V → mv_M → Prop} {M : mv_M} {W H t : Int} (hO : bf_O M W H t) {nk : Int} {KL KU KR KD KP KM KZ KG KO KX : Int → Int} (hBk : bf_G M 31 nk KL KU KR KD KP KM KZ KG KO KX) (w1 : 1 ≤ W) (w2 : W ≤ 4096) (h1 : 1 ≤ H) (h2 : H ≤ 4096) {b : Int} (b0 : 0 ≤ b) (b1 : b < nk) (hnk : nk ≤ 64) (hb : bf_ok nk KL KU KR KD) {ip sm : Int} (s0 : 0 ≤ sm) (s1 : sm ≤ 1000)  (k : ∀ r, bf_if (ip ≠ 0) 25 r → Q [.inl (sm + r)] M) : mv_W md_BF_judge 161 [.inr 2, .inl b, .inl ip, .inl sm] [] M (0, 0) Q := by
  have hbb := hb b b0 b1
  refine mx_iload_n d_BF_judge_161 rfl ?_
  refine mx_if_eq 172 d_BF_judge_162 (by decide) (fun c162 => ?_) (fun c162 => ?_)
  · skip
    refine mx_iload_n d_BF_judge_172 rfl ?_
    refine mx_ireturn d_BF_judge_173 rfl ?_
    first | (have q := k 25 (Or.inl ⟨by omega, rfl⟩); exact q) | (have q := k 0 (Or.inr ⟨by omega, rfl⟩); rw [Int.add_zero] at q; exact q)
  · skip
    refine mx_iload_n d_BF_judge_165 rfl ?_
    refine mx_bipush (25) d_BF_judge_166 (by decide +kernel) (by unfold mv_r; omega) ?_
    refine mx_iadd d_BF_judge_168 (by unfold mv_r; omega) ?_
    refine mx_goto 173 d_BF_judge_169 (by decide) ?_
    refine mx_ireturn d_BF_judge_173 rfl ?_
    first | (have q := k 25 (Or.inl ⟨by omega, rfl⟩); exact q) | (have q := k 0 (Or.inr ⟨by omega, rfl⟩); rw [Int.add_zero] at q; exact q)
theorem bf_j133 {Q : List mv_V → mv_M → Prop} {M : mv_M} {W H t : Int} (hO : bf_O M W H t) {nk : Int} {KL KU KR KD KP KM KZ KG KO KX : Int → Int} (hBk : bf_G M 31 nk KL KU KR KD KP KM KZ KG KO KX) (w1 : 1 ≤ W) (w2 : W ≤ 4096) (h1 : 1 ≤ H) (h2 : H ≤ 4096) {b : Int} (b0 : 0 ≤ b) (b1 : b < nk) (hnk : nk ≤ 64) (hb : bf_ok nk KL KU KR KD) {ip sm : Int} (s0 : 0 ≤ sm) (s1 : sm ≤ 1000)  (k : ∀ r, bf_if (2 * ((KR b - KL b) * (KD b - KU b)) ≤ W * H) 10 r → mv_W md_BF_judge 161 [.inr 2, .inl b, .inl ip, .inl (sm + r)] [] M (0, 0) Q) : mv_W md_BF_judge 133 [.inr 2, .inl b, .inl ip, .inl sm] [] M (0, 0) Q := by
  have hbb := hb b b0 b1
  refine mx_iconst (2) d_BF_judge_133 (by decide +kernel) (by unfold mv_r; omega) ?_
  refine mx_aload_n d_BF_judge_134 rfl (by omega) ?_
  refine mx_gl d_BF_judge_135 f_BF_41 hO rfl ?_
  refine mx_gl d_BF_judge_138 f_BF_90 hBk.1 rfl ?_
  refine mx_iload_n d_BF_judge_141 rfl ?_
  refine mx_cV1 d_BF_judge_142 c_BF_199 hBk.2.1.1 (by decide) (Nat.le_of_ble_eq_true rfl) ?_
  refine bf_area (by omega) hBk.2.1 hnk hb b0 b1 ?_
  refine mx_imul d_BF_judge_145 (by have q := bf_mul (a := KR b - KL b) (b := KD b - KU b) (by omega) (by omega) (by omega) (by omega); unfold mv_r; omega) ?_
  refine mx_aload_n d_BF_judge_146 rfl (by omega) ?_
  refine mx_gl d_BF_judge_147 f_BF_65 hO rfl ?_
  refine mx_aload_n d_BF_judge_150 rfl (by omega) ?_
  refine mx_gl d_BF_judge_151 f_BF_69 hO rfl ?_
  refine mx_imul d_BF_judge_154 (by have q := bf_mul (a := W) (b := H) (by omega) (by omega) (by omega) (by omega); unfold mv_r; omega) ?_
  refine mx_icmp_gt 161 d_BF_judge_155 (by decide) (fun c155 => ?_) (fun c155 => ?_)
  · skip
    first | exact k 10 (Or.inl ⟨by omega, rfl⟩) | (have q := k 0 (Or.inr ⟨by omega, rfl⟩); rw [Int.add_zero] at q; exact q)
  · skip
    refine mx_iinc d_BF_judge_158 rfl (by unfold mv_r; omega) ?_
    first | exact k 10 (Or.inl ⟨by omega, rfl⟩) | (have q := k 0 (Or.inr ⟨by omega, rfl⟩); rw [Int.add_zero] at q; exact q)
theorem bf_j98 {Q : List mv_V → mv_M → Prop} {M : mv_M} {W H t : Int} (hO : bf_O M W H t) {nk : Int} {KL KU KR KD KP KM KZ KG KO KX : Int → Int} (hBk : bf_G M 31 nk KL KU KR KD KP KM KZ KG KO KX) (w1 : 1 ≤ W) (w2 : W ≤ 4096) (h1 : 1 ≤ H) (h2 : H ≤ 4096) {b : Int} (b0 : 0 ≤ b) (b1 : b < nk) (hnk : nk ≤ 64) (hb : bf_ok nk KL KU KR KD) {ip sm : Int} (s0 : 0 ≤ sm) (s1 : sm ≤ 1000)  (k : ∀ r, bf_if (H ≤ KU b + KD b) 15 r → mv_W md_BF_judge 133 [.inr 2, .inl b, .inl ip, .inl (sm + r)] [] M (0, 0) Q) : mv_W md_BF_judge 98 [.inr 2, .inl b, .inl ip, .inl sm] [] M (0, 0) Q := by
  have hbb := hb b b0 b1
  refine mx_aload_n d_BF_judge_98 rfl (by omega) ?_
  refine mx_gl d_BF_judge_99 f_BF_41 hO rfl ?_
  refine mx_gl d_BF_judge_102 f_BF_90 hBk.1 rfl ?_
  refine mx_gl d_BF_judge_105 f_BF_193 hBk.2.1.1 rfl ?_
  refine mx_iload_n d_BF_judge_108 rfl ?_
  refine mx_iald d_BF_judge_109 hBk.2.1.2.2.1 (by omega) (by omega) ?_
  refine mx_aload_n d_BF_judge_110 rfl (by omega) ?_
  refine mx_gl d_BF_judge_111 f_BF_41 hO rfl ?_
  refine mx_gl d_BF_judge_114 f_BF_90 hBk.1 rfl ?_
  refine mx_gl d_BF_judge_117 f_BF_196 hBk.2.1.1 rfl ?_
  refine mx_iload_n d_BF_judge_120 rfl ?_
  refine mx_iald d_BF_judge_121 hBk.2.1.2.2.2.2 (by omega) (by omega) ?_
  refine mx_iadd d_BF_judge_122 (by unfold mv_r; omega) ?_
  refine mx_aload_n d_BF_judge_123 rfl (by omega) ?_
  refine mx_gl d_BF_judge_124 f_BF_69 hO rfl ?_
  refine mx_icmp_lt 133 d_BF_judge_127 (by decide) (fun c127 => ?_) (fun c127 => ?_)
  · skip
    first | exact k 15 (Or.inl ⟨by omega, rfl⟩) | (have q := k 0 (Or.inr ⟨by omega, rfl⟩); rw [Int.add_zero] at q; exact q)
  · skip
    refine mx_iinc d_BF_judge_130 rfl (by unfold mv_r; omega) ?_
    first | exact k 15 (Or.inl ⟨by omega, rfl⟩) | (have q := k 0 (Or.inr ⟨by omega, rfl⟩); rw [Int.add_zero] at q; exact q)
theorem bf_j63 {Q : List mv_V → mv_M → Prop} {M : mv_M} {W H t : Int} (hO : bf_O M W H t) {nk : Int} {KL KU KR KD KP KM KZ KG KO KX : Int → Int} (hBk : bf_G M 31 nk KL KU KR KD KP KM KZ KG KO KX) (w1 : 1 ≤ W) (w2 : W ≤ 4096) (h1 : 1 ≤ H) (h2 : H ≤ 4096) {b : Int} (b0 : 0 ≤ b) (b1 : b < nk) (hnk : nk ≤ 64) (hb : bf_ok nk KL KU KR KD) {ip sm : Int} (s0 : 0 ≤ sm) (s1 : sm ≤ 1000)  (k : ∀ r, bf_if (W ≤ KL b + KR b) 15 r → mv_W md_BF_judge 98 [.inr 2, .inl b, .inl ip, .inl (sm + r)] [] M (0, 0) Q) : mv_W md_BF_judge 63 [.inr 2, .inl b, .inl ip, .inl sm] [] M (0, 0) Q := by
  have hbb := hb b b0 b1
  refine mx_aload_n d_BF_judge_63 rfl (by omega) ?_
  refine mx_gl d_BF_judge_64 f_BF_41 hO rfl ?_
  refine mx_gl d_BF_judge_67 f_BF_90 hBk.1 rfl ?_
  refine mx_gl d_BF_judge_70 f_BF_187 hBk.2.1.1 rfl ?_
  refine mx_iload_n d_BF_judge_73 rfl ?_
  refine mx_iald d_BF_judge_74 hBk.2.1.2.1 (by omega) (by omega) ?_
  refine mx_aload_n d_BF_judge_75 rfl (by omega) ?_
  refine mx_gl d_BF_judge_76 f_BF_41 hO rfl ?_
  refine mx_gl d_BF_judge_79 f_BF_90 hBk.1 rfl ?_
  refine mx_gl d_BF_judge_82 f_BF_190 hBk.2.1.1 rfl ?_
  refine mx_iload_n d_BF_judge_85 rfl ?_
  refine mx_iald d_BF_judge_86 hBk.2.1.2.2.2.1 (by omega) (by omega) ?_
  refine mx_iadd d_BF_judge_87 (by unfold mv_r; omega) ?_
  refine mx_aload_n d_BF_judge_88 rfl (by omega) ?_
  refine mx_gl d_BF_judge_89 f_BF_65 hO rfl ?_
  refine mx_icmp_lt 98 d_BF_judge_92 (by decide) (fun c92 => ?_) (fun c92 => ?_)
  · skip
    first | exact k 15 (Or.inl ⟨by omega, rfl⟩) | (have q := k 0 (Or.inr ⟨by omega, rfl⟩); rw [Int.add_zero] at q; exact q)
  · skip
    refine mx_iinc d_BF_judge_95 rfl (by unfold mv_r; omega) ?_
    first | exact k 15 (Or.inl ⟨by omega, rfl⟩) | (have q := k 0 (Or.inr ⟨by omega, rfl⟩); rw [Int.add_zero] at q; exact q)
/-- the points of block b -/
def bf_pts (W H : Int) (np : Int) (NL NU NR ND KL KU KR KD KP : Int → Int) (b r : Int) : Prop := (¬ bf_inp np NL NU NR ND KL KU KR KD b ∧ (bf_stamp W H KL KD b ∨ bf_sender W H KR KD b) ∧ r = 0) ∨ ((bf_inp np NL NU NR ND KL KU KR KD b ∨ ¬ (bf_stamp W H KL KD b ∨ bf_sender W H KR KD b)) ∧ ∃ r0 r1 r2 r3 r4, ((2 ≤ KP b ∧ KP b ≤ 6 ∧ r0 = 30) ∨ (¬ (2 ≤ KP b ∧ KP b ≤ 6) ∧ r0 = 10)) ∧ bf_if (W ≤ KL b + KR b) 15 r1 ∧ bf_if (H ≤ KU b + KD b) 15 r2 ∧ bf_if (2 * ((KR b - KL b) * (KD b - KU b)) ≤ W * H) 10 r3 ∧ bf_if (bf_inp np NL NU NR ND KL KU KR KD b) 25 r4 ∧ r = r0 + r1 + r2 + r3 + r4)
theorem bf_if_b {c : Prop} {x r : Int} (h : bf_if c x r) (hx : 0 ≤ x) (hx2 : x ≤ 25) : 0 ≤ r ∧ r ≤ 25 := by rcases h with ⟨_, rfl⟩ | ⟨_, rfl⟩ <;> omega
theorem bf_j28 {Q : List mv_V → mv_M → Prop} {M : mv_M} {W H t : Int} (hO : bf_O M W H t) {nk : Int} {KL KU KR KD KP KM KZ KG KO KX : Int → Int} (hBk : bf_G M 31 nk KL KU KR KD KP KM KZ KG KO KX) (w1 : 1 ≤ W) (w2 : W ≤ 4096) (h1 : 1 ≤ H) (h2 : H ≤ 4096) {b : Int} (b0 : 0 ≤ b) (b1 : b < nk) (hnk : nk ≤ 64) (hb : bf_ok nk KL KU KR KD) {ip : Int} {sv : mv_V} {IP : Prop} (hip : ip ≠ 0 ↔ IP) (k : ∀ r0 r1 r2 r3 r4, ((2 ≤ KP b ∧ KP b ≤ 6 ∧ r0 = 30) ∨ (¬ (2 ≤ KP b ∧ KP b ≤ 6) ∧ r0 = 10)) → bf_if (W ≤ KL b + KR b) 15 r1 → bf_if (H ≤ KU b + KD b) 15 r2 → bf_if (2 * ((KR b - KL b) * (KD b - KU b)) ≤ W * H) 10 r3 → bf_if IP 25 r4 → Q [.inl (r0 + r1 + r2 + r3 + r4)] M) : mv_W md_BF_judge 28 [.inr 2, .inl b, .inl ip, sv] [] M (0, 0) Q := by
  have K : ∀ r0, ((2 ≤ KP b ∧ KP b ≤ 6 ∧ r0 = 30) ∨ (¬ (2 ≤ KP b ∧ KP b ≤ 6) ∧ r0 = 10)) → mv_W md_BF_judge 63 [.inr 2, .inl b, .inl ip, .inl r0] [] M (0, 0) Q := by
    intro r0 h0
    have hr0 : 0 ≤ r0 ∧ r0 ≤ 30 := by omega
    refine bf_j63 hO hBk w1 w2 h1 h2 b0 b1 hnk hb (by omega) (by omega) (fun r1 e1 => ?_)
    have q1 := bf_if_b e1 (by omega) (by omega)
    refine bf_j98 hO hBk w1 w2 h1 h2 b0 b1 hnk hb (by omega) (by omega) (fun r2 e2 => ?_)
    have q2 := bf_if_b e2 (by omega) (by omega)
    refine bf_j133 hO hBk w1 w2 h1 h2 b0 b1 hnk hb (by omega) (by omega) (fun r3 e3 => ?_)
    have q3 := bf_if_b e3 (by omega) (by omega)
    refine bf_j161 hO hBk w1 w2 h1 h2 b0 b1 hnk hb (by omega) (by omega) (fun r4 e4 => ?_)
    exact k r0 r1 r2 r3 r4 h0 e1 e2 e3 (by unfold bf_if at e4 ⊢; rw [hip] at e4; exact e4)
  refine mx_aload_n d_BF_judge_28 rfl (by omega) ?_
  refine mx_gl d_BF_judge_29 f_BF_41 hO rfl ?_
  refine mx_gl d_BF_judge_32 f_BF_127 hBk.1 rfl ?_
  refine mx_iload_n d_BF_judge_35 rfl ?_
  refine mx_iald d_BF_judge_36 hBk.2.2.1 (by omega) (by omega) ?_
  refine mx_iconst (2) d_BF_judge_37 (by decide +kernel) (by unfold mv_r; omega) ?_
  refine mx_icmp_lt 60 d_BF_judge_38 (by decide) (fun c38 => ?_) (fun c38 => ?_)
  · skip
    refine mx_bipush (10) d_BF_judge_60 (by decide +kernel) (by unfold mv_r; omega) ?_
    refine mx_istore_n d_BF_judge_62 (by decide) ?_
    first | exact K 30 (Or.inl ⟨by omega, by omega, rfl⟩) | exact K 10 (Or.inr ⟨by omega, rfl⟩)
  · skip
    refine mx_aload_n d_BF_judge_41 rfl (by omega) ?_
    refine mx_gl d_BF_judge_42 f_BF_41 hO rfl ?_
    refine mx_gl d_BF_judge_45 f_BF_127 hBk.1 rfl ?_
    refine mx_iload_n d_BF_judge_48 rfl ?_
    refine mx_iald d_BF_judge_49 hBk.2.2.1 (by omega) (by omega) ?_
    refine mx_bipush (6) d_BF_judge_50 (by decide +kernel) (by unfold mv_r; omega) ?_
    refine mx_icmp_gt 60 d_BF_judge_52 (by decide) (fun c52 => ?_) (fun c52 => ?_)
    · skip
      refine mx_bipush (10) d_BF_judge_60 (by decide +kernel) (by unfold mv_r; omega) ?_
      refine mx_istore_n d_BF_judge_62 (by decide) ?_
      first | exact K 30 (Or.inl ⟨by omega, by omega, rfl⟩) | exact K 10 (Or.inr ⟨by omega, rfl⟩)
    · skip
      refine mx_bipush (30) d_BF_judge_55 (by decide +kernel) (by unfold mv_r; omega) ?_
      refine mx_goto 62 d_BF_judge_57 (by decide) ?_
      refine mx_istore_n d_BF_judge_62 (by decide) ?_
      first | exact K 30 (Or.inl ⟨by omega, by omega, rfl⟩) | exact K 10 (Or.inr ⟨by omega, rfl⟩)
theorem bf_judge {M : mv_M} {W H t : Int} (hO : bf_O M W H t) {nk : Int} {KL KU KR KD KP KM KZ KG KO KX : Int → Int} (hBk : bf_G M 31 nk KL KU KR KD KP KM KZ KG KO KX) {np : Int} {NL NU NR ND : Int → Int} (hPn : bf_R M 8 8 np NL NU NR ND) (np0 : 0 ≤ np) (np8 : np ≤ 8) (w1 : 1 ≤ W) (w2 : W ≤ 4096) (h1 : 1 ≤ H) (h2 : H ≤ 4096) {b : Int} (b0 : 0 ≤ b) (b1 : b < nk) (hnk : nk ≤ 64) (hb : bf_ok nk KL KU KR KD) {Q : List mv_V → mv_M → Prop} (k : ∀ r, bf_pts W H np NL NU NR ND KL KU KR KD KP b r → Q [.inl r] M)  : mv_J md_BF_judge [.inr 2, .inl b] M Q := by
  refine mv_enter (by decide +kernel) (Nat.le_of_ble_eq_true rfl) ?_
  show mv_W md_BF_judge 0 [.inr 2, .inl b, .inr 0, .inr 0] [] M (0, 0) Q
  refine mx_aload_n d_BF_judge_0 rfl (by omega) ?_
  refine mx_iload_n d_BF_judge_1 rfl ?_
  refine mx_cV1 d_BF_judge_2 c_BF_178 hO (by decide) (Nat.le_of_ble_eq_true rfl) ?_
  refine bf_liesInPane hO hBk hPn np0 np8 b0 (by omega) (fun hin => ?_) (fun hin => ?_)
  · skip
    refine mx_istore_n d_BF_judge_5 (by decide) ?_
    refine mx_iload_n d_BF_judge_6 rfl ?_
    refine mx_n1 28 d_BF_judge_7 (by decide) ?_
    first
      | exact bf_j28 hO hBk w1 w2 h1 h2 b0 b1 hnk hb (ip := 1) (IP := bf_inp np NL NU NR ND KL KU KR KD b) ⟨fun _ => hin, fun _ => by omega⟩ (fun r0 r1 r2 r3 r4 e0 e1 e2 e3 e4 => k _ (Or.inr ⟨Or.inl hin, r0, r1, r2, r3, r4, e0, e1, e2, e3, e4, rfl⟩))
      | exact bf_j28 hO hBk w1 w2 h1 h2 b0 b1 hnk hb (ip := 0) (IP := bf_inp np NL NU NR ND KL KU KR KD b) ⟨fun h => absurd rfl h, fun h => absurd h hin⟩ (fun r0 r1 r2 r3 r4 e0 e1 e2 e3 e4 => k _ (Or.inr ⟨Or.inr (fun q => q.elim hst hse), r0, r1, r2, r3, r4, e0, e1, e2, e3, e4, rfl⟩))
  · skip
    refine mx_istore_n d_BF_judge_5 (by decide) ?_
    refine mx_iload_n d_BF_judge_6 rfl ?_
    refine mx_n0 28 d_BF_judge_7 (by decide) ?_
    refine mx_aload_n d_BF_judge_10 rfl (by omega) ?_
    refine mx_iload_n d_BF_judge_11 rfl ?_
    refine mx_cV1 d_BF_judge_12 c_BF_181 hO (by decide) (Nat.le_of_ble_eq_true rfl) ?_
    refine bf_isStamp hO hBk w1 w2 h1 h2 b0 b1 hnk hb (fun hst => ?_) (fun hst => ?_)
    · skip
      refine mx_n1 26 d_BF_judge_15 (by decide) ?_
      refine mx_iconst (0) d_BF_judge_26 (by decide +kernel) (by unfold mv_r; omega) ?_
      refine mx_ireturn d_BF_judge_27 rfl ?_
      first | exact k 0 (Or.inl ⟨hin, Or.inl hst, rfl⟩) | exact k 0 (Or.inl ⟨hin, Or.inr hse, rfl⟩)
    · skip
      refine mx_n0 26 d_BF_judge_15 (by decide) ?_
      refine mx_aload_n d_BF_judge_18 rfl (by omega) ?_
      refine mx_iload_n d_BF_judge_19 rfl ?_
      refine mx_cV1 d_BF_judge_20 c_BF_184 hO (by decide) (Nat.le_of_ble_eq_true rfl) ?_
      refine bf_isSender hO hBk w1 w2 h1 h2 b0 b1 hnk hb (fun hse => ?_) (fun hse => ?_)
      · skip
        refine mx_z1 28 d_BF_judge_23 (by decide) ?_
        refine mx_iconst (0) d_BF_judge_26 (by decide +kernel) (by unfold mv_r; omega) ?_
        refine mx_ireturn d_BF_judge_27 rfl ?_
        first | exact k 0 (Or.inl ⟨hin, Or.inl hst, rfl⟩) | exact k 0 (Or.inl ⟨hin, Or.inr hse, rfl⟩)
      · skip
        refine mx_z0 28 d_BF_judge_23 (by decide) ?_
        first
          | exact bf_j28 hO hBk w1 w2 h1 h2 b0 b1 hnk hb (ip := 1) (IP := bf_inp np NL NU NR ND KL KU KR KD b) ⟨fun _ => hin, fun _ => by omega⟩ (fun r0 r1 r2 r3 r4 e0 e1 e2 e3 e4 => k _ (Or.inr ⟨Or.inl hin, r0, r1, r2, r3, r4, e0, e1, e2, e3, e4, rfl⟩))
          | exact bf_j28 hO hBk w1 w2 h1 h2 b0 b1 hnk hb (ip := 0) (IP := bf_inp np NL NU NR ND KL KU KR KD b) ⟨fun h => absurd rfl h, fun h => absurd h hin⟩ (fun r0 r1 r2 r3 r4 e0 e1 e2 e3 e4 => k _ (Or.inr ⟨Or.inr (fun q => q.elim hst hse), r0, r1, r2, r3, r4, e0, e1, e2, e3, e4, rfl⟩))
end
section
/-! the class: what is asked -/
theorem bf_isDetail {Q : List mv_V → mv_M → Prop} {M : mv_M} {w : Int} (k1 : (0 ≤ w ∧ w ≤ 5) → Q [.inl 1] M) (k0 : ¬ (0 ≤ w ∧ w ≤ 5) → Q [.inl 0] M)  : mv_J md_BF_isDetail [.inl w] M Q := by
  refine mv_enter (by decide +kernel) (Nat.le_of_ble_eq_true rfl) ?_
  show mv_W md_BF_isDetail 0 [.inl w] [] M (0, 0) Q
  refine mx_iload_n d_BF_isDetail_0 rfl ?_
  refine mx_if_lt 13 d_BF_isDetail_1 (by decide) (fun c1 => ?_) (fun c1 => ?_)
  · skip
    refine mx_iconst (0) d_BF_isDetail_13 (by decide +kernel) (by unfold mv_r; omega) ?_
    refine mx_zreturn d_BF_isDetail_14 rfl (by omega) ?_
    first | exact k1 (by omega) | exact k0 (by omega)
  · skip
    refine mx_iload_n d_BF_isDetail_4 rfl ?_
    refine mx_iconst (5) d_BF_isDetail_5 (by decide +kernel) (by unfold mv_r; omega) ?_
    refine mx_icmp_gt 13 d_BF_isDetail_6 (by decide) (fun c6 => ?_) (fun c6 => ?_)
    · skip
      refine mx_iconst (0) d_BF_isDetail_13 (by decide +kernel) (by unfold mv_r; omega) ?_
      refine mx_zreturn d_BF_isDetail_14 rfl (by omega) ?_
      first | exact k1 (by omega) | exact k0 (by omega)
    · skip
      refine mx_iconst (1) d_BF_isDetail_9 (by decide +kernel) (by unfold mv_r; omega) ?_
      refine mx_goto 14 d_BF_isDetail_10 (by decide) ?_
      refine mx_zreturn d_BF_isDetail_14 rfl (by omega) ?_
      first | exact k1 (by omega) | exact k0 (by omega)
def bf_det (L U R D : Int → Int) (P B : Int → Int) (g w r : Int) : Prop := (w = 0 ∧ r = L g) ∨ (w = 1 ∧ r = U g) ∨ (w = 2 ∧ r = R g - L g) ∨ (w = 3 ∧ r = D g - U g) ∨ (w = 4 ∧ r = P g) ∨ (w = 5 ∧ r = B g)
def bf_blk (nk : Int) (KL KU KR KD KP KO BS : Int → Int) (i w r : Int) : Prop := (¬ (0 ≤ i ∧ i < nk) ∧ r = -11) ∨ ((0 ≤ i ∧ i < nk) ∧ ¬ (0 ≤ w ∧ w ≤ 5) ∧ r = -12) ∨ ((0 ≤ i ∧ i < nk) ∧ (0 ≤ w ∧ w ≤ 5) ∧ bf_det KL KU KR KD KP BS (KO i) w r)
theorem bf_block {Q : List mv_V → mv_M → Prop} {M : mv_M} {W H t : Int} (hO : bf_O M W H t) {nk : Int} {KL KU KR KD KP KM KZ KG KO KX : Int → Int} (hBk : bf_G M 31 nk KL KU KR KD KP KM KZ KG KO KX) (hnk : nk ≤ 64) (hb : bf_ok nk KL KU KR KD) (hko : ∀ p, 0 ≤ p → p < nk → 0 ≤ KO p ∧ KO p < nk) {BS : Int → Int} (hBS : M.2 43 = .inl (64, BS)) {i w : Int} (k : ∀ r, bf_blk nk KL KU KR KD KP KO BS i w r → Q [.inl r] M)  : mv_J md_BF_block [.inr 2, .inl i, .inl w] M Q := by
  refine mv_enter (by decide +kernel) (Nat.le_of_ble_eq_true rfl) ?_
  show mv_W md_BF_block 0 [.inr 2, .inl i, .inl w, .inr 0] [] M (0, 0) Q
  refine mx_aload_n d_BF_block_0 rfl (by omega) ?_
  refine mx_gl d_BF_block_1 f_BF_41 hO rfl ?_
  refine mx_iload_n d_BF_block_4 rfl ?_
  refine mx_cV1 d_BF_block_5 c_BF_117 hBk.1 (by decide) (Nat.le_of_ble_eq_true rfl) ?_
  refine bf_ghas (by omega) hBk (fun hi => ?_) (fun hi => ?_)
  · skip
    refine mx_n1 14 d_BF_block_8 (by decide) ?_
    refine mx_iload_n d_BF_block_14 rfl ?_
    refine mx_cS1 d_BF_block_15 c_BF_121 (by decide) (Nat.le_of_ble_eq_true rfl) ?_
    refine bf_isDetail (fun hw => ?_) (fun hw => ?_)
    · skip
      refine mx_n1 24 d_BF_block_18 (by decide) ?_
      have hki := hko i hi.1 hi.2
      refine mx_aload_n d_BF_block_24 rfl (by omega) ?_
      refine mx_gl d_BF_block_25 f_BF_41 hO rfl ?_
      refine mx_gl d_BF_block_28 f_BF_124 hBk.1 rfl ?_
      refine mx_iload_n d_BF_block_31 rfl ?_
      refine mx_iald d_BF_block_32 hBk.2.2.2.2.2.2.1 (by omega) (by omega) ?_
      refine mx_istore_n d_BF_block_33 (by decide) ?_
      refine mx_iload_n d_BF_block_34 rfl ?_
      rcases (show w = 4 ∨ w = 5 ∨ (w ≠ 4 ∧ w ≠ 5) by omega) with rfl | rfl | hsw
      · skip
        refine mx_look 60 d_BF_block_35 (by decide +kernel) (by decide +kernel : _ = (25 : Int)) (by decide) ?_
        refine mx_aload_n d_BF_block_60 rfl (by omega) ?_
        refine mx_gl d_BF_block_61 f_BF_41 hO rfl ?_
        refine mx_gl d_BF_block_64 f_BF_127 hBk.1 rfl ?_
        refine mx_iload_n d_BF_block_67 rfl ?_
        refine mx_iald d_BF_block_68 hBk.2.2.1 (by omega) (by omega) ?_
        refine mx_ireturn d_BF_block_69 rfl ?_
        exact k _ (Or.inr (Or.inr ⟨hi, by omega, by unfold bf_det; omega⟩))
      · skip
        refine mx_look 70 d_BF_block_35 (by decide +kernel) (by decide +kernel : _ = (35 : Int)) (by decide) ?_
        refine mx_aload_n d_BF_block_70 rfl (by omega) ?_
        refine mx_gl d_BF_block_71 f_BF_44 hO rfl ?_
        refine mx_iload_n d_BF_block_74 rfl ?_
        refine mx_iald d_BF_block_75 hBS (by omega) (by omega) ?_
        refine mx_ireturn d_BF_block_76 rfl ?_
        exact k _ (Or.inr (Or.inr ⟨hi, by omega, by unfold bf_det; omega⟩))
      · skip
        refine mx_look 77 d_BF_block_35 (by decide +kernel) (show Op.lookupswitch.offset [(4, 25), (5, 35)] 42 w = 42 by rw [Op.lookupswitch.offset_cons, if_neg (by omega), Op.lookupswitch.offset_cons, if_neg (by omega)]; rfl) (by decide) ?_
        refine mx_aload_n d_BF_block_77 rfl (by omega) ?_
        refine mx_gl d_BF_block_78 f_BF_41 hO rfl ?_
        refine mx_gl d_BF_block_81 f_BF_90 hBk.1 rfl ?_
        refine mx_iload_n d_BF_block_84 rfl ?_
        refine mx_iload_n d_BF_block_85 rfl ?_
        refine mx_cV2 d_BF_block_86 c_BF_130 hBk.2.1.1 (by decide) (Nat.le_of_ble_eq_true rfl) ?_
        refine bf_side (by omega) hBk.2.1 hnk hb hki.1 hki.2 ?_
        refine mx_ireturn d_BF_block_89 rfl ?_
        refine k _ (Or.inr (Or.inr ⟨hi, hw, ?_⟩))
        unfold bf_det
        rcases (show w = 0 ∨ w = 1 ∨ w = 2 ∨ w = 3 by omega) with rfl | rfl | rfl | rfl
        · exact Or.inl ⟨rfl, rfl⟩
        · exact Or.inr (Or.inl ⟨rfl, rfl⟩)
        · exact Or.inr (Or.inr (Or.inl ⟨rfl, rfl⟩))
        · exact Or.inr (Or.inr (Or.inr (Or.inl ⟨rfl, rfl⟩)))
    · skip
      refine mx_n0 24 d_BF_block_18 (by decide) ?_
      refine mx_bipush (-12) d_BF_block_21 (by decide +kernel) (by unfold mv_r; omega) ?_
      refine mx_ireturn d_BF_block_23 rfl ?_
      exact k _ (Or.inr (Or.inl ⟨hi, hw, rfl⟩))
  · skip
    refine mx_n0 14 d_BF_block_8 (by decide) ?_
    refine mx_bipush (-11) d_BF_block_11 (by decide +kernel) (by unfold mv_r; omega) ?_
    refine mx_ireturn d_BF_block_13 rfl ?_
    exact k _ (Or.inl ⟨hi, rfl⟩)
def bf_lib (nl : Int) (LO KG : Int → Int) (b k r : Int) : Prop := (∃ i, 0 ≤ i ∧ i < nl ∧ KG (LO i) = b ∧ pu_cnt (fun q => decide (KG (LO q) = b)) i.toNat = k ∧ r = LO i) ∨ ((∀ i, 0 ≤ i → i < nl → KG (LO i) = b → pu_cnt (fun q => decide (KG (LO q) = b)) i.toNat ≠ k) ∧ r = -1)
theorem bf_lib_l {Q : List mv_V → mv_M → Prop} {M : mv_M} {W H t : Int} (hO : bf_O M W H t) {nl : Int} {LL LU LR LD LP LM LZ LG LO LX : Int → Int} (hLn : bf_G M 19 nl LL LU LR LD LP LM LZ LG LO LX) {nk : Int} {KL KU KR KD KP KM KZ KG KO KX : Int → Int} (hBk : bf_G M 31 nk KL KU KR KD KP KM KZ KG KO KX) (hnl : nl ≤ 64) (hlo : ∀ p, 0 ≤ p → p < nl → 0 ≤ LO p ∧ LO p < nl) {b kk : Int} (k : ∀ r, bf_lib nl LO KG b kk r → Q [.inl r] M) : ∀ (d : Nat) (i c : Int) (cv : mv_V), nl - i < d → 0 ≤ i → i ≤ nl → c = pu_cnt (fun q => decide (KG (LO q) = b)) i.toNat → (∀ q, 0 ≤ q → q < i → KG (LO q) = b → pu_cnt (fun q => decide (KG (LO q) = b)) q.toNat ≠ kk) → mv_W md_BF_lineInBlock 5 [.inr 2, .inl b, .inl kk, .inl c, .inl i, cv] [] M (0, 0) Q := by
  intro d
  induction d with
  | zero =>
    intro i c cv hd i0 i1 hc hq
    exfalso; omega
  | succ d ih =>
    intro i c cv hd i0 i1 hc hq
    have hcb := pu_cnt_le (fun q => decide (KG (LO q) = b)) i.toNat
    rw [← hc] at hcb
    have hcs := pu_cnt_s (P := fun q => decide (KG (LO q) = b)) i0
    refine mx_iload d_BF_lineInBlock_5 rfl ?_
    refine mx_aload_n d_BF_lineInBlock_7 rfl (by omega) ?_
    refine mx_gl d_BF_lineInBlock_8 f_BF_37 hO rfl ?_
    refine mx_cV0 d_BF_lineInBlock_11 c_BF_96 hLn.1 (by decide) (Nat.le_of_ble_eq_true rfl) ?_
    refine bf_size (by omega) hLn ?_
    refine mx_icmp_ge 60 d_BF_lineInBlock_14 (by decide) (fun c14 => ?_) (fun c14 => ?_)
    · skip
      refine mx_iconst (-1) d_BF_lineInBlock_60 (by decide +kernel) (by unfold mv_r; omega) ?_
      refine mx_ireturn d_BF_lineInBlock_61 rfl ?_
      exact k _ (Or.inr ⟨fun q q0 q1 => hq q q0 (by omega), rfl⟩)
    · skip
      have hli := hlo i i0 (by omega)
      refine mx_aload_n d_BF_lineInBlock_17 rfl (by omega) ?_
      refine mx_gl d_BF_lineInBlock_18 f_BF_37 hO rfl ?_
      refine mx_gl d_BF_lineInBlock_21 f_BF_124 hLn.1 rfl ?_
      refine mx_iload d_BF_lineInBlock_24 rfl ?_
      refine mx_iald d_BF_lineInBlock_26 hLn.2.2.2.2.2.2.1 (by omega) (by omega) ?_
      refine mx_istore d_BF_lineInBlock_27 (by decide) ?_
      refine mx_aload_n d_BF_lineInBlock_29 rfl (by omega) ?_
      refine mx_gl d_BF_lineInBlock_30 f_BF_41 hO rfl ?_
      refine mx_gl d_BF_lineInBlock_33 f_BF_171 hBk.1 rfl ?_
      refine mx_iload d_BF_lineInBlock_36 rfl ?_
      refine mx_iald d_BF_lineInBlock_38 hBk.2.2.2.2.2.1 (by omega) (by omega) ?_
      refine mx_iload_n d_BF_lineInBlock_39 rfl ?_
      refine mx_icmp_ne 54 d_BF_lineInBlock_40 (by decide) (fun c40 => ?_) (fun c40 => ?_)
      · skip
        refine mx_iinc d_BF_lineInBlock_54 rfl (by unfold mv_r; omega) ?_
        refine mx_goto 5 d_BF_lineInBlock_57 (by decide) ?_
        exact ih (i + 1) c _ (by omega) (by omega) (by omega) (by rw [hcs, if_neg (by simpa using c40), hc, Int.add_zero]) (fun q q0 q1 e => by
          by_cases hqi : q = i
          · rw [hqi] at e; exact absurd e c40
          · exact hq q q0 (by omega) e)
      · skip
        refine mx_iload_n d_BF_lineInBlock_43 rfl ?_
        refine mx_iload_n d_BF_lineInBlock_44 rfl ?_
        refine mx_icmp_ne 51 d_BF_lineInBlock_45 (by decide) (fun c45 => ?_) (fun c45 => ?_)
        · skip
          refine mx_iinc d_BF_lineInBlock_51 rfl (by unfold mv_r; omega) ?_
          refine mx_iinc d_BF_lineInBlock_54 rfl (by unfold mv_r; omega) ?_
          refine mx_goto 5 d_BF_lineInBlock_57 (by decide) ?_
          exact ih (i + 1) (c + 1) _ (by omega) (by omega) (by omega) (by rw [hcs, if_pos (by simpa using c40), hc]) (fun q q0 q1 e => by
            by_cases hqi : q = i
            · rw [hqi, ← hc]; exact c45
            · exact hq q q0 (by omega) e)
        · skip
          refine mx_iload d_BF_lineInBlock_48 rfl ?_
          refine mx_ireturn d_BF_lineInBlock_50 rfl ?_
          exact k _ (Or.inl ⟨i, i0, by omega, by omega, by omega, rfl⟩)
theorem bf_lineInBlock {Q : List mv_V → mv_M → Prop} {M : mv_M} {W H t : Int} (hO : bf_O M W H t) {nl : Int} {LL LU LR LD LP LM LZ LG LO LX : Int → Int} (hLn : bf_G M 19 nl LL LU LR LD LP LM LZ LG LO LX) {nk : Int} {KL KU KR KD KP KM KZ KG KO KX : Int → Int} (hBk : bf_G M 31 nk KL KU KR KD KP KM KZ KG KO KX) (hnl : nl ≤ 64) (hlo : ∀ p, 0 ≤ p → p < nl → 0 ≤ LO p ∧ LO p < nl) (hnl0 : 0 ≤ nl) {b kk : Int} (k : ∀ r, bf_lib nl LO KG b kk r → Q [.inl r] M)  : mv_J md_BF_lineInBlock [.inr 2, .inl b, .inl kk] M Q := by
  refine mv_enter (by decide +kernel) (Nat.le_of_ble_eq_true rfl) ?_
  show mv_W md_BF_lineInBlock 0 [.inr 2, .inl b, .inl kk, .inr 0, .inr 0, .inr 0] [] M (0, 0) Q
  refine mx_iconst (0) d_BF_lineInBlock_0 (by decide +kernel) (by unfold mv_r; omega) ?_
  refine mx_istore_n d_BF_lineInBlock_1 (by decide) ?_
  refine mx_iconst (0) d_BF_lineInBlock_2 (by decide +kernel) (by unfold mv_r; omega) ?_
  refine mx_istore d_BF_lineInBlock_3 (by decide) ?_
  exact bf_lib_l hO hLn hBk hnl hlo k (nl.toNat + 1) 0 0 (.inr 0) (by omega) (by omega) hnl0 rfl (fun q q0 q1 => by omega)
def bf_lin (nk nl : Int) (LL LU LR LD LP LM LO KG KO : Int → Int) (b kk w r : Int) : Prop := (¬ (0 ≤ b ∧ b < nk) ∧ r = -11) ∨ ((0 ≤ b ∧ b < nk) ∧ ¬ (0 ≤ w ∧ w ≤ 5) ∧ r = -12) ∨ ((0 ≤ b ∧ b < nk) ∧ (0 ≤ w ∧ w ≤ 5) ∧ ∃ g, bf_lib nl LO KG (KO b) kk g ∧ ((g = -1 ∧ r = -1) ∨ (0 ≤ g ∧ g < nl ∧ bf_det LL LU LR LD LP LM g w r)))
theorem bf_line {Q : List mv_V → mv_M → Prop} {M : mv_M} {W H t : Int} (hO : bf_O M W H t) {nl : Int} {LL LU LR LD LP LM LZ LG LO LX : Int → Int} (hLn : bf_G M 19 nl LL LU LR LD LP LM LZ LG LO LX) {nk : Int} {KL KU KR KD KP KM KZ KG KO KX : Int → Int} (hBk : bf_G M 31 nk KL KU KR KD KP KM KZ KG KO KX) (hnl : nl ≤ 64) (hlo : ∀ p, 0 ≤ p → p < nl → 0 ≤ LO p ∧ LO p < nl) (hnl0 : 0 ≤ nl) (hbl : bf_ok nl LL LU LR LD) (hnk : nk ≤ 64) (hko : ∀ p, 0 ≤ p → p < nk → 0 ≤ KO p ∧ KO p < nk) {b kk w : Int} (k : ∀ r, bf_lin nk nl LL LU LR LD LP LM LO KG KO b kk w r → Q [.inl r] M)  : mv_J md_BF_line [.inr 2, .inl b, .inl kk, .inl w] M Q := by
  refine mv_enter (by decide +kernel) (Nat.le_of_ble_eq_true rfl) ?_
  show mv_W md_BF_line 0 [.inr 2, .inl b, .inl kk, .inl w, .inr 0] [] M (0, 0) Q
  refine mx_aload_n d_BF_line_0 rfl (by omega) ?_
  refine mx_gl d_BF_line_1 f_BF_41 hO rfl ?_
  refine mx_iload_n d_BF_line_4 rfl ?_
  refine mx_cV1 d_BF_line_5 c_BF_117 hBk.1 (by decide) (Nat.le_of_ble_eq_true rfl) ?_
  refine bf_ghas (by omega) hBk (fun hi => ?_) (fun hi => ?_)
  · skip
    refine mx_n1 14 d_BF_line_8 (by decide) ?_
    refine mx_iload_n d_BF_line_14 rfl ?_
    refine mx_cS1 d_BF_line_15 c_BF_121 (by decide) (Nat.le_of_ble_eq_true rfl) ?_
    refine bf_isDetail (fun hw => ?_) (fun hw => ?_)
    · skip
      refine mx_n1 24 d_BF_line_18 (by decide) ?_
      have hki := hko b hi.1 hi.2
      refine mx_aload_n d_BF_line_24 rfl (by omega) ?_
      refine mx_aload_n d_BF_line_25 rfl (by omega) ?_
      refine mx_gl d_BF_line_26 f_BF_41 hO rfl ?_
      refine mx_gl d_BF_line_29 f_BF_124 hBk.1 rfl ?_
      refine mx_iload_n d_BF_line_32 rfl ?_
      refine mx_iald d_BF_line_33 hBk.2.2.2.2.2.2.1 (by omega) (by omega) ?_
      refine mx_iload_n d_BF_line_34 rfl ?_
      refine mx_cV2 d_BF_line_35 c_BF_134 hO (by decide) (Nat.le_of_ble_eq_true rfl) ?_
      refine bf_lineInBlock hO hLn hBk hnl hlo hnl0 (fun g hg => ?_)
      have hg2 : g = -1 ∨ (0 ≤ g ∧ g < nl) := by
        rcases hg with ⟨i, i0, i1, _, _, rfl⟩ | ⟨_, rfl⟩
        · exact Or.inr (hlo i i0 i1)
        · exact Or.inl rfl
      refine mx_istore d_BF_line_38 (by decide) ?_
      refine mx_iload d_BF_line_40 rfl ?_
      refine mx_if_ge 47 d_BF_line_42 (by decide) (fun c42 => ?_) (fun c42 => ?_)
      · skip
        refine mx_iload_n d_BF_line_47 rfl ?_
        rcases (show w = 4 ∨ w = 5 ∨ (w ≠ 4 ∧ w ≠ 5) by omega) with rfl | rfl | hsw
        · skip
          refine mx_look 76 d_BF_line_48 (by decide +kernel) (by decide +kernel : _ = (28 : Int)) (by decide) ?_
          refine mx_aload_n d_BF_line_76 rfl (by omega) ?_
          refine mx_gl d_BF_line_77 f_BF_37 hO rfl ?_
          refine mx_gl d_BF_line_80 f_BF_127 hLn.1 rfl ?_
          refine mx_iload d_BF_line_83 rfl ?_
          refine mx_iald d_BF_line_85 hLn.2.2.1 (by omega) (by omega) ?_
          refine mx_ireturn d_BF_line_86 rfl ?_
          exact k _ (Or.inr (Or.inr ⟨hi, by omega, g, hg, Or.inr ⟨by omega, by omega, by unfold bf_det; omega⟩⟩))
        · skip
          refine mx_look 87 d_BF_line_48 (by decide +kernel) (by decide +kernel : _ = (39 : Int)) (by decide) ?_
          refine mx_aload_n d_BF_line_87 rfl (by omega) ?_
          refine mx_gl d_BF_line_88 f_BF_37 hO rfl ?_
          refine mx_gl d_BF_line_91 f_BF_137 hLn.1 rfl ?_
          refine mx_iload d_BF_line_94 rfl ?_
          refine mx_iald d_BF_line_96 hLn.2.2.2.1 (by omega) (by omega) ?_
          refine mx_ireturn d_BF_line_97 rfl ?_
          exact k _ (Or.inr (Or.inr ⟨hi, by omega, g, hg, Or.inr ⟨by omega, by omega, by unfold bf_det; omega⟩⟩))
        · skip
          refine mx_look 98 d_BF_line_48 (by decide +kernel) (show Op.lookupswitch.offset [(4, 28), (5, 39)] 50 w = 50 by rw [Op.lookupswitch.offset_cons, if_neg (by omega), Op.lookupswitch.offset_cons, if_neg (by omega)]; rfl) (by decide) ?_
          refine mx_aload_n d_BF_line_98 rfl (by omega) ?_
          refine mx_gl d_BF_line_99 f_BF_37 hO rfl ?_
          refine mx_gl d_BF_line_102 f_BF_90 hLn.1 rfl ?_
          refine mx_iload d_BF_line_105 rfl ?_
          refine mx_iload_n d_BF_line_107 rfl ?_
          refine mx_cV2 d_BF_line_108 c_BF_130 hLn.2.1.1 (by decide) (Nat.le_of_ble_eq_true rfl) ?_
          refine bf_side (by omega) hLn.2.1 hnl hbl (by omega) (by omega) ?_
          refine mx_ireturn d_BF_line_111 rfl ?_
          refine k _ (Or.inr (Or.inr ⟨hi, hw, g, hg, Or.inr ⟨by omega, by omega, ?_⟩⟩))
          unfold bf_det
          rcases (show w = 0 ∨ w = 1 ∨ w = 2 ∨ w = 3 by omega) with rfl | rfl | rfl | rfl
          · exact Or.inl ⟨rfl, rfl⟩
          · exact Or.inr (Or.inl ⟨rfl, rfl⟩)
          · exact Or.inr (Or.inr (Or.inl ⟨rfl, rfl⟩))
          · exact Or.inr (Or.inr (Or.inr (Or.inl ⟨rfl, rfl⟩)))
      · skip
        refine mx_iconst (-1) d_BF_line_45 (by decide +kernel) (by unfold mv_r; omega) ?_
        refine mx_ireturn d_BF_line_46 rfl ?_
        exact k _ (Or.inr (Or.inr ⟨hi, hw, g, hg, Or.inl ⟨by omega, rfl⟩⟩))
    · skip
      refine mx_n0 24 d_BF_line_18 (by decide) ?_
      refine mx_bipush (-12) d_BF_line_21 (by decide +kernel) (by unfold mv_r; omega) ?_
      refine mx_ireturn d_BF_line_23 rfl ?_
      exact k _ (Or.inr (Or.inl ⟨hi, hw, rfl⟩))
  · skip
    refine mx_n0 14 d_BF_line_8 (by decide) ?_
    refine mx_bipush (-11) d_BF_line_11 (by decide +kernel) (by unfold mv_r; omega) ?_
    refine mx_ireturn d_BF_line_13 rfl ?_
    exact k _ (Or.inl ⟨hi, rfl⟩)
theorem bf_points {Q : List mv_V → mv_M → Prop} {M : mv_M} {W H t : Int} (hO : bf_O M W H t) {nk : Int} {KL KU KR KD KP KM KZ KG KO KX : Int → Int} (hBk : bf_G M 31 nk KL KU KR KD KP KM KZ KG KO KX) (hnk : nk ≤ 64) (hko : ∀ p, 0 ≤ p → p < nk → 0 ≤ KO p ∧ KO p < nk) {i : Int} (k1 : (0 ≤ i ∧ i < nk) → Q [.inl (KZ (KO i))] M) (k0 : ¬ (0 ≤ i ∧ i < nk) → Q [.inl (-11)] M)  : mv_J md_BF_points [.inr 2, .inl i] M Q := by
  refine mv_enter (by decide +kernel) (Nat.le_of_ble_eq_true rfl) ?_
  show mv_W md_BF_points 0 [.inr 2, .inl i] [] M (0, 0) Q
  refine mx_aload_n d_BF_points_0 rfl (by omega) ?_
  refine mx_gl d_BF_points_1 f_BF_41 hO rfl ?_
  refine mx_iload_n d_BF_points_4 rfl ?_
  refine mx_cV1 d_BF_points_5 c_BF_117 hBk.1 (by decide) (Nat.le_of_ble_eq_true rfl) ?_
  refine bf_ghas (by omega) hBk (fun hi => ?_) (fun hi => ?_)
  · skip
    refine mx_z1 31 d_BF_points_8 (by decide) ?_
    have hki := hko i hi.1 hi.2
    refine mx_aload_n d_BF_points_11 rfl (by omega) ?_
    refine mx_gl d_BF_points_12 f_BF_41 hO rfl ?_
    refine mx_gl d_BF_points_15 f_BF_100 hBk.1 rfl ?_
    refine mx_aload_n d_BF_points_18 rfl (by omega) ?_
    refine mx_gl d_BF_points_19 f_BF_41 hO rfl ?_
    refine mx_gl d_BF_points_22 f_BF_124 hBk.1 rfl ?_
    refine mx_iload_n d_BF_points_25 rfl ?_
    refine mx_iald d_BF_points_26 hBk.2.2.2.2.2.2.1 (by omega) (by omega) ?_
    refine mx_iald d_BF_points_27 hBk.2.2.2.2.1 (by omega) (by omega) ?_
    refine mx_goto 33 d_BF_points_28 (by decide) ?_
    refine mx_ireturn d_BF_points_33 rfl ?_
    first | exact k1 hi | exact k0 hi
  · skip
    refine mx_z0 31 d_BF_points_8 (by decide) ?_
    refine mx_bipush (-11) d_BF_points_31 (by decide +kernel) (by unfold mv_r; omega) ?_
    refine mx_ireturn d_BF_points_33 rfl ?_
    first | exact k1 hi | exact k0 hi
theorem bf_printed {Q : List mv_V → mv_M → Prop} {M : mv_M} {W H t : Int} (hO : bf_O M W H t) {nk : Int} {KL KU KR KD KP KM KZ KG KO KX : Int → Int} (hBk : bf_G M 31 nk KL KU KR KD KP KM KZ KG KO KX) (hnk : nk ≤ 64) (hko : ∀ p, 0 ≤ p → p < nk → 0 ≤ KO p ∧ KO p < nk) {HB LB : Int → Int} (hHB : M.2 44 = .inl (64, HB)) (hLB : M.2 45 = .inl (64, LB)) (hhb : ∀ b, 0 ≤ b → b < nk → 0 ≤ HB b ∧ HB b ≤ 4096 ∧ 0 ≤ LB b ∧ LB b ≤ 4096) {i : Int} (k1 : (0 ≤ i ∧ i < nk) → 4 * (HB (KO i) - LB (KO i)) ≤ HB (KO i) → Q [.inl 1] M) (k0 : ¬ ((0 ≤ i ∧ i < nk) ∧ 4 * (HB (KO i) - LB (KO i)) ≤ HB (KO i)) → Q [.inl 0] M)  : mv_J md_BF_printed [.inr 2, .inl i] M Q := by
  refine mv_enter (by decide +kernel) (Nat.le_of_ble_eq_true rfl) ?_
  show mv_W md_BF_printed 0 [.inr 2, .inl i, .inr 0] [] M (0, 0) Q
  refine mx_aload_n d_BF_printed_0 rfl (by omega) ?_
  refine mx_gl d_BF_printed_1 f_BF_41 hO rfl ?_
  refine mx_iload_n d_BF_printed_4 rfl ?_
  refine mx_cV1 d_BF_printed_5 c_BF_117 hBk.1 (by decide) (Nat.le_of_ble_eq_true rfl) ?_
  refine bf_ghas (by omega) hBk (fun hi => ?_) (fun hi => ?_)
  · skip
    refine mx_n1 13 d_BF_printed_8 (by decide) ?_
    have hki := hko i hi.1 hi.2
    have hh := hhb (KO i) hki.1 hki.2
    refine mx_aload_n d_BF_printed_13 rfl (by omega) ?_
    refine mx_gl d_BF_printed_14 f_BF_41 hO rfl ?_
    refine mx_gl d_BF_printed_17 f_BF_124 hBk.1 rfl ?_
    refine mx_iload_n d_BF_printed_20 rfl ?_
    refine mx_iald d_BF_printed_21 hBk.2.2.2.2.2.2.1 (by omega) (by omega) ?_
    refine mx_istore_n d_BF_printed_22 (by decide) ?_
    refine mx_iconst (4) d_BF_printed_23 (by decide +kernel) (by unfold mv_r; omega) ?_
    refine mx_aload_n d_BF_printed_24 rfl (by omega) ?_
    refine mx_gl d_BF_printed_25 f_BF_48 hO rfl ?_
    refine mx_iload_n d_BF_printed_28 rfl ?_
    refine mx_iald d_BF_printed_29 hHB (by omega) (by omega) ?_
    refine mx_aload_n d_BF_printed_30 rfl (by omega) ?_
    refine mx_gl d_BF_printed_31 f_BF_51 hO rfl ?_
    refine mx_iload_n d_BF_printed_34 rfl ?_
    refine mx_iald d_BF_printed_35 hLB (by omega) (by omega) ?_
    refine mx_isub d_BF_printed_36 (by unfold mv_r; omega) ?_
    refine mx_imul d_BF_printed_37 (by unfold mv_r; omega) ?_
    refine mx_aload_n d_BF_printed_38 rfl (by omega) ?_
    refine mx_gl d_BF_printed_39 f_BF_48 hO rfl ?_
    refine mx_iload_n d_BF_printed_42 rfl ?_
    refine mx_iald d_BF_printed_43 hHB (by omega) (by omega) ?_
    refine mx_icmp_gt 51 d_BF_printed_44 (by decide) (fun c44 => ?_) (fun c44 => ?_)
    · skip
      refine mx_iconst (0) d_BF_printed_51 (by decide +kernel) (by unfold mv_r; omega) ?_
      refine mx_zreturn d_BF_printed_52 rfl (by omega) ?_
      first | exact k1 hi (by omega) | exact k0 (fun h => by have := h.2; omega)
    · skip
      refine mx_iconst (1) d_BF_printed_47 (by decide +kernel) (by unfold mv_r; omega) ?_
      refine mx_goto 52 d_BF_printed_48 (by decide) ?_
      refine mx_zreturn d_BF_printed_52 rfl (by omega) ?_
      first | exact k1 hi (by omega) | exact k0 (fun h => by have := h.2; omega)
  · skip
    refine mx_n0 13 d_BF_printed_8 (by decide) ?_
    refine mx_iconst (0) d_BF_printed_11 (by decide +kernel) (by unfold mv_r; omega) ?_
    refine mx_zreturn d_BF_printed_12 rfl (by omega) ?_
    exact k0 (fun h => hi h.1)
theorem bf_turned {Q : List mv_V → mv_M → Prop} {M : mv_M} {W H t : Int} (hO : bf_O M W H t) (ht : t = 0 ∨ t = 1) (k : Q [.inl t] M)  : mv_J md_BF_turned [.inr 2] M Q := by
  refine mv_enter (by decide +kernel) (Nat.le_of_ble_eq_true rfl) ?_
  show mv_W md_BF_turned 0 [.inr 2] [] M (0, 0) Q
  refine mx_aload_n d_BF_turned_0 rfl (by omega) ?_
  refine mx_gl d_BF_turned_1 f_BF_57 hO rfl ?_
  refine mx_zreturn d_BF_turned_4 rfl (by omega) ?_
  exact k
theorem bf_blockOf {Q : List mv_V → mv_M → Prop} {M : mv_M} {W H t : Int} (hO : bf_O M W H t) {nb : Int} {BL BU BR BD : Int → Int} (hBx : bf_R M 3 64 nb BL BU BR BD) (hn : nb ≤ 64) {PB : Int → Int} (hPB : M.2 46 = .inl (64, PB)) {i : Int} (k1 : (0 ≤ i ∧ i < nb) → Q [.inl (PB i)] M) (k0 : ¬ (0 ≤ i ∧ i < nb) → Q [.inl (-11)] M)  : mv_J md_BF_blockOf [.inr 2, .inl i] M Q := by
  refine mv_enter (by decide +kernel) (Nat.le_of_ble_eq_true rfl) ?_
  show mv_W md_BF_blockOf 0 [.inr 2, .inl i] [] M (0, 0) Q
  refine mx_aload_n d_BF_blockOf_0 rfl (by omega) ?_
  refine mx_gl d_BF_blockOf_1 f_BF_14 hO rfl ?_
  refine mx_iload_n d_BF_blockOf_4 rfl ?_
  refine mx_cV1 d_BF_blockOf_5 c_BF_140 hBx.1 (by decide) (Nat.le_of_ble_eq_true rfl) ?_
  refine bf_has (by omega) hBx (fun hi => ?_) (fun hi => ?_)
  · skip
    refine mx_z1 20 d_BF_blockOf_8 (by decide) ?_
    refine mx_aload_n d_BF_blockOf_11 rfl (by omega) ?_
    refine mx_gl d_BF_blockOf_12 f_BF_54 hO rfl ?_
    refine mx_iload_n d_BF_blockOf_15 rfl ?_
    refine mx_iald d_BF_blockOf_16 hPB (by omega) (by omega) ?_
    refine mx_goto 22 d_BF_blockOf_17 (by decide) ?_
    refine mx_ireturn d_BF_blockOf_22 rfl ?_
    first | exact k1 hi | exact k0 hi
  · skip
    refine mx_z0 20 d_BF_blockOf_8 (by decide) ?_
    refine mx_bipush (-11) d_BF_blockOf_20 (by decide +kernel) (by unfold mv_r; omega) ?_
    refine mx_ireturn d_BF_blockOf_22 rfl ?_
    first | exact k1 hi | exact k0 hi
theorem bf_cand_l {Q : List mv_V → mv_M → Prop} {M : mv_M} {W H t : Int} (hO : bf_O M W H t) {nk : Int} {KL KU KR KD KP KM KZ KG KO KX : Int → Int} (hBk : bf_G M 31 nk KL KU KR KD KP KM KZ KG KO KX) (hnk : nk ≤ 64) (k : Q [.inl (pu_cnt (fun b => decide (0 < KZ b)) nk.toNat)] M) : ∀ (d : Nat) (b c : Int), nk - b < d → 0 ≤ b → b ≤ nk → c = pu_cnt (fun b => decide (0 < KZ b)) b.toNat → mv_W md_BF_candidates 4 [.inr 2, .inl c, .inl b] [] M (0, 0) Q := by
  intro d
  induction d with
  | zero =>
    intro b c hd b0 b1 hc
    exfalso; omega
  | succ d ih =>
    intro b c hd b0 b1 hc
    have hcb := pu_cnt_le (fun b => decide (0 < KZ b)) b.toNat
    rw [← hc] at hcb
    have hcs := pu_cnt_s (P := fun b => decide (0 < KZ b)) b0
    refine mx_iload_n d_BF_candidates_4 rfl ?_
    refine mx_aload_n d_BF_candidates_5 rfl (by omega) ?_
    refine mx_gl d_BF_candidates_6 f_BF_41 hO rfl ?_
    refine mx_cV0 d_BF_candidates_9 c_BF_96 hBk.1 (by decide) (Nat.le_of_ble_eq_true rfl) ?_
    refine bf_size (by omega) hBk ?_
    refine mx_icmp_ge 36 d_BF_candidates_12 (by decide) (fun c12 => ?_) (fun c12 => ?_)
    · skip
      refine mx_iload_n d_BF_candidates_36 rfl ?_
      refine mx_ireturn d_BF_candidates_37 rfl ?_
      rw [hc, show b = nk by omega]; exact k
    · skip
      refine mx_aload_n d_BF_candidates_15 rfl (by omega) ?_
      refine mx_gl d_BF_candidates_16 f_BF_41 hO rfl ?_
      refine mx_gl d_BF_candidates_19 f_BF_100 hBk.1 rfl ?_
      refine mx_iload_n d_BF_candidates_22 rfl ?_
      refine mx_iald d_BF_candidates_23 hBk.2.2.2.2.1 (by omega) (by omega) ?_
      refine mx_if_le 30 d_BF_candidates_24 (by decide) (fun c24 => ?_) (fun c24 => ?_)
      · skip
        refine mx_iinc d_BF_candidates_30 rfl (by unfold mv_r; omega) ?_
        refine mx_goto 4 d_BF_candidates_33 (by decide) ?_
        first | exact ih (b + 1) (c + 1) (by omega) (by omega) (by omega) (by rw [hcs, if_pos (by simp; omega), hc]) | exact ih (b + 1) c (by omega) (by omega) (by omega) (by rw [hcs, if_neg (by simp; omega), hc, Int.add_zero])
      · skip
        refine mx_iinc d_BF_candidates_27 rfl (by unfold mv_r; omega) ?_
        refine mx_iinc d_BF_candidates_30 rfl (by unfold mv_r; omega) ?_
        refine mx_goto 4 d_BF_candidates_33 (by decide) ?_
        first | exact ih (b + 1) (c + 1) (by omega) (by omega) (by omega) (by rw [hcs, if_pos (by simp; omega), hc]) | exact ih (b + 1) c (by omega) (by omega) (by omega) (by rw [hcs, if_neg (by simp; omega), hc, Int.add_zero])
theorem bf_candidates {Q : List mv_V → mv_M → Prop} {M : mv_M} {W H t : Int} (hO : bf_O M W H t) {nk : Int} {KL KU KR KD KP KM KZ KG KO KX : Int → Int} (hBk : bf_G M 31 nk KL KU KR KD KP KM KZ KG KO KX) (hnk : nk ≤ 64) (hnk0 : 0 ≤ nk) (k : Q [.inl (pu_cnt (fun b => decide (0 < KZ b)) nk.toNat)] M)  : mv_J md_BF_candidates [.inr 2] M Q := by
  refine mv_enter (by decide +kernel) (Nat.le_of_ble_eq_true rfl) ?_
  show mv_W md_BF_candidates 0 [.inr 2, .inr 0, .inr 0] [] M (0, 0) Q
  refine mx_iconst (0) d_BF_candidates_0 (by decide +kernel) (by unfold mv_r; omega) ?_
  refine mx_istore_n d_BF_candidates_1 (by decide) ?_
  refine mx_iconst (0) d_BF_candidates_2 (by decide +kernel) (by unfold mv_r; omega) ?_
  refine mx_istore_n d_BF_candidates_3 (by decide) ?_
  exact bf_cand_l hO hBk hnk k (nk.toNat + 1) 0 0 (by omega) (by omega) hnk0 rfl
theorem bf_clear {Q : List mv_V → mv_M → Prop} {M : mv_M} {W H t : Int} (hO : bf_O M W H t) {nb : Int} {BL BU BR BD : Int → Int} (hBx : bf_R M 3 64 nb BL BU BR BD) (k : ∀ M', bf_fr M M' 3 8 → bf_R M' 3 64 0 BL BU BR BD → Q [.inl nb] M')  : mv_J md_BF_clear [.inr 2] M Q := by
  refine mv_enter (by decide +kernel) (Nat.le_of_ble_eq_true rfl) ?_
  show mv_W md_BF_clear 0 [.inr 2, .inr 0] [] M (0, 0) Q
  refine mx_aload_n d_BF_clear_0 rfl (by omega) ?_
  refine mx_gl d_BF_clear_1 f_BF_14 hO rfl ?_
  refine mx_gl d_BF_clear_4 f_BF_110 hBx.1 rfl ?_
  refine mx_istore_n d_BF_clear_7 (by decide) ?_
  refine mx_aload_n d_BF_clear_8 rfl (by omega) ?_
  refine mx_gl d_BF_clear_9 f_BF_14 hO rfl ?_
  refine mx_iconst (0) d_BF_clear_12 (by decide +kernel) (by unfold mv_r; omega) ?_
  refine mx_pl d_BF_clear_13 g_BF_110 hBx.1 (mv_Vi _) (Nat.le_of_ble_eq_true rfl) ?_
  refine mx_iload_n d_BF_clear_16 rfl ?_
  refine mx_ireturn d_BF_clear_17 rfl ?_
  exact k _ (fun j hj => mv_pn (by omega)) ⟨mv_ps, by rw [mv_pn (by omega)]; exact hBx.2.1, by rw [mv_pn (by omega)]; exact hBx.2.2.1, by rw [mv_pn (by omega)]; exact hBx.2.2.2.1, by rw [mv_pn (by omega)]; exact hBx.2.2.2.2⟩
theorem bf_nearestSide {Q : List mv_V → mv_M → Prop} {M : mv_M} {x : Int} (k : Q [.inl (max 1 (min 4096 x))] M)  : mv_J md_BF_nearestSide [.inl x] M Q := by
  refine mv_enter (by decide +kernel) (Nat.le_of_ble_eq_true rfl) ?_
  show mv_W md_BF_nearestSide 0 [.inl x] [] M (0, 0) Q
  refine mx_iconst (1) d_BF_nearestSide_0 (by decide +kernel) (by unfold mv_r; omega) ?_
  refine mx_sipush (4096) d_BF_nearestSide_1 (by decide +kernel) (by unfold mv_r; omega) ?_
  refine mx_iload_n d_BF_nearestSide_4 rfl ?_
  refine mx_min d_BF_nearestSide_5 c_BF_141 (by decide) (Nat.le_of_ble_eq_true rfl) ?_
  refine mx_max d_BF_nearestSide_8 c_BF_146 (by decide) (Nat.le_of_ble_eq_true rfl) ?_
  refine mx_ireturn d_BF_nearestSide_11 rfl ?_
  exact k
def bf_on (W H x y w h : Int) : Prop := 1 ≤ w ∧ 1 ≤ h ∧ 0 ≤ x ∧ x + w ≤ W ∧ 0 ≤ y ∧ y + h ≤ H
theorem bf_liesOnSheet {Q : List mv_V → mv_M → Prop} {M : mv_M} {W H t : Int} (hO : bf_O M W H t) (w1 : 1 ≤ W) (w2 : W ≤ 4096) (h1 : 1 ≤ H) (h2 : H ≤ 4096) {x y w h : Int} (rw_ : mv_r w) (rh_ : mv_r h) (k1 : bf_on W H x y w h → Q [.inl 1] M) (k0 : ¬ bf_on W H x y w h → Q [.inl 0] M)  : mv_J md_BF_liesOnSheet [.inr 2, .inl x, .inl y, .inl w, .inl h] M Q := by
  refine mv_enter (by decide +kernel) (Nat.le_of_ble_eq_true rfl) ?_
  show mv_W md_BF_liesOnSheet 0 [.inr 2, .inl x, .inl y, .inl w, .inl h] [] M (0, 0) Q
  unfold mv_r at rw_ rh_
  refine mx_iload_n d_BF_liesOnSheet_0 rfl ?_
  refine mx_iconst (1) d_BF_liesOnSheet_1 (by decide +kernel) (by unfold mv_r; omega) ?_
  refine mx_icmp_lt 44 d_BF_liesOnSheet_2 (by decide) (fun c2 => ?_) (fun c2 => ?_)
  · skip
    refine mx_iconst (0) d_BF_liesOnSheet_44 (by decide +kernel) (by unfold mv_r; omega) ?_
    refine mx_zreturn d_BF_liesOnSheet_45 rfl (by omega) ?_
    first | exact k1 (by unfold bf_on; omega) | exact k0 (by unfold bf_on; omega)
  · skip
    refine mx_iload d_BF_liesOnSheet_5 rfl ?_
    refine mx_iconst (1) d_BF_liesOnSheet_7 (by decide +kernel) (by unfold mv_r; omega) ?_
    refine mx_icmp_lt 44 d_BF_liesOnSheet_8 (by decide) (fun c8 => ?_) (fun c8 => ?_)
    · skip
      refine mx_iconst (0) d_BF_liesOnSheet_44 (by decide +kernel) (by unfold mv_r; omega) ?_
      refine mx_zreturn d_BF_liesOnSheet_45 rfl (by omega) ?_
      first | exact k1 (by unfold bf_on; omega) | exact k0 (by unfold bf_on; omega)
    · skip
      refine mx_iload_n d_BF_liesOnSheet_11 rfl ?_
      refine mx_if_lt 44 d_BF_liesOnSheet_12 (by decide) (fun c12 => ?_) (fun c12 => ?_)
      · skip
        refine mx_iconst (0) d_BF_liesOnSheet_44 (by decide +kernel) (by unfold mv_r; omega) ?_
        refine mx_zreturn d_BF_liesOnSheet_45 rfl (by omega) ?_
        first | exact k1 (by unfold bf_on; omega) | exact k0 (by unfold bf_on; omega)
      · skip
        refine mx_iload_n d_BF_liesOnSheet_15 rfl ?_
        refine mx_aload_n d_BF_liesOnSheet_16 rfl (by omega) ?_
        refine mx_gl d_BF_liesOnSheet_17 f_BF_65 hO rfl ?_
        refine mx_iload_n d_BF_liesOnSheet_20 rfl ?_
        refine mx_isub d_BF_liesOnSheet_21 (by unfold mv_r; omega) ?_
        refine mx_icmp_gt 44 d_BF_liesOnSheet_22 (by decide) (fun c22 => ?_) (fun c22 => ?_)
        · skip
          refine mx_iconst (0) d_BF_liesOnSheet_44 (by decide +kernel) (by unfold mv_r; omega) ?_
          refine mx_zreturn d_BF_liesOnSheet_45 rfl (by omega) ?_
          first | exact k1 (by unfold bf_on; omega) | exact k0 (by unfold bf_on; omega)
        · skip
          refine mx_iload_n d_BF_liesOnSheet_25 rfl ?_
          refine mx_if_lt 44 d_BF_liesOnSheet_26 (by decide) (fun c26 => ?_) (fun c26 => ?_)
          · skip
            refine mx_iconst (0) d_BF_liesOnSheet_44 (by decide +kernel) (by unfold mv_r; omega) ?_
            refine mx_zreturn d_BF_liesOnSheet_45 rfl (by omega) ?_
            first | exact k1 (by unfold bf_on; omega) | exact k0 (by unfold bf_on; omega)
          · skip
            refine mx_iload_n d_BF_liesOnSheet_29 rfl ?_
            refine mx_aload_n d_BF_liesOnSheet_30 rfl (by omega) ?_
            refine mx_gl d_BF_liesOnSheet_31 f_BF_69 hO rfl ?_
            refine mx_iload d_BF_liesOnSheet_34 rfl ?_
            refine mx_isub d_BF_liesOnSheet_36 (by unfold mv_r; omega) ?_
            refine mx_icmp_gt 44 d_BF_liesOnSheet_37 (by decide) (fun c37 => ?_) (fun c37 => ?_)
            · skip
              refine mx_iconst (0) d_BF_liesOnSheet_44 (by decide +kernel) (by unfold mv_r; omega) ?_
              refine mx_zreturn d_BF_liesOnSheet_45 rfl (by omega) ?_
              first | exact k1 (by unfold bf_on; omega) | exact k0 (by unfold bf_on; omega)
            · skip
              refine mx_iconst (1) d_BF_liesOnSheet_40 (by decide +kernel) (by unfold mv_r; omega) ?_
              refine mx_goto 45 d_BF_liesOnSheet_41 (by decide) ?_
              refine mx_zreturn d_BF_liesOnSheet_45 rfl (by omega) ?_
              first | exact k1 (by unfold bf_on; omega) | exact k0 (by unfold bf_on; omega)
theorem bf_addTo {Q : List mv_V → mv_M → Prop} {M : mv_M} {W H t : Int} (hO : bf_O M W H t) (w1 : 1 ≤ W) (w2 : W ≤ 4096) (h1 : 1 ≤ H) (h2 : H ≤ 4096) {o n : Nat} {cnt : Int} {L U R D : Int → Int} (ho : 3 ≤ o) (hR : bf_R M o n cnt L U R D) (hn64 : n ≤ 64) (hc0 : 0 ≤ cnt) {x y w h : Int} (rw_ : mv_r w) (rh_ : mv_r h) (k1 : ¬ bf_on W H x y w h → Q [.inl (-12)] M) (k2 : bf_on W H x y w h → (n : Int) ≤ cnt → Q [.inl (-14)] M) (k3 : ∀ M', bf_on W H x y w h → cnt < n → bf_fr M M' o (o + 5) → bf_R M' o n (cnt + 1) (mv_s L cnt x) (mv_s U cnt y) (mv_s R cnt (x + w)) (mv_s D cnt (y + h)) → Q [.inl cnt] M')  : mv_J md_BF_addTo [.inr 2, .inr o, .inl x, .inl y, .inl w, .inl h] M Q := by
  refine mv_enter (by decide +kernel) (Nat.le_of_ble_eq_true rfl) ?_
  show mv_W md_BF_addTo 0 [.inr 2, .inr o, .inl x, .inl y, .inl w, .inl h] [] M (0, 0) Q
  refine mx_aload_n d_BF_addTo_0 rfl (by omega) ?_
  refine mx_iload_n d_BF_addTo_1 rfl ?_
  refine mx_iload_n d_BF_addTo_2 rfl ?_
  refine mx_iload d_BF_addTo_3 rfl ?_
  refine mx_iload d_BF_addTo_5 rfl ?_
  refine mx_cV4 d_BF_addTo_7 c_BF_149 hO (by decide) (Nat.le_of_ble_eq_true rfl) ?_
  refine bf_liesOnSheet hO w1 w2 h1 h2 rw_ rh_ (fun hon => ?_) (fun hon => ?_)
  · skip
    have hon' := hon
    unfold bf_on at hon'
    refine mx_z1 30 d_BF_addTo_10 (by decide) ?_
    refine mx_aload_n d_BF_addTo_13 rfl (by omega) ?_
    refine mx_iload_n d_BF_addTo_14 rfl ?_
    refine mx_iload_n d_BF_addTo_15 rfl ?_
    refine mx_iload_n d_BF_addTo_16 rfl ?_
    refine mx_iload d_BF_addTo_17 rfl ?_
    refine mx_iadd d_BF_addTo_19 (by unfold mv_r; omega) ?_
    refine mx_iload_n d_BF_addTo_20 rfl ?_
    refine mx_iload d_BF_addTo_21 rfl ?_
    refine mx_iadd d_BF_addTo_23 (by unfold mv_r; omega) ?_
    refine mx_cV4 d_BF_addTo_24 c_BF_153 hR.1 (by decide) (Nat.le_of_ble_eq_true rfl) ?_
    refine bf_add (by omega) hR hn64 hc0 (fun hful => ?_) (fun M' hlt hfr hR' => ?_)
    · skip
      refine mx_goto 32 d_BF_addTo_27 (by decide) ?_
      refine mx_ireturn d_BF_addTo_32 rfl ?_
      first | exact k1 hon | exact k2 hon hful | exact k3 M' hon hlt hfr hR'
    · skip
      refine mx_goto 32 d_BF_addTo_27 (by decide) ?_
      refine mx_ireturn d_BF_addTo_32 rfl ?_
      first | exact k1 hon | exact k2 hon hful | exact k3 M' hon hlt hfr hR'
  · skip
    refine mx_z0 30 d_BF_addTo_10 (by decide) ?_
    refine mx_bipush (-12) d_BF_addTo_30 (by decide +kernel) (by unfold mv_r; omega) ?_
    refine mx_ireturn d_BF_addTo_32 rfl ?_
    first | exact k1 hon | exact k2 hon hful | exact k3 M' hon hlt hfr hR'
theorem bf_box {Q : List mv_V → mv_M → Prop} {M : mv_M} {W H t : Int} (hO : bf_O M W H t) (w1 : 1 ≤ W) (w2 : W ≤ 4096) (h1 : 1 ≤ H) (h2 : H ≤ 4096) {nb : Int} {BL BU BR BD : Int → Int} (hBx : bf_R M 3 64 nb BL BU BR BD) (hn0 : 0 ≤ nb) (hn : nb ≤ 64) {PB : Int → Int} (hPB : M.2 46 = .inl (64, PB)) {x y w h : Int} (rw_ : mv_r w) (rh_ : mv_r h) (k1 : ¬ bf_on W H x y w h → Q [.inl (-12)] M) (k2 : bf_on W H x y w h → 64 ≤ nb → Q [.inl (-14)] M) (k3 : ∀ M', bf_on W H x y w h → nb < 64 → (∀ j, (j < 3 ∨ (8 ≤ j ∧ j ≠ 46)) → M'.2 j = M.2 j) → bf_R M' 3 64 (nb + 1) (mv_s BL nb x) (mv_s BU nb y) (mv_s BR nb (x + w)) (mv_s BD nb (y + h)) → M'.2 46 = .inl (64, mv_s PB nb (-1)) → Q [.inl nb] M')  : mv_J md_BF_box [.inr 2, .inl x, .inl y, .inl w, .inl h] M Q := by
  refine mv_enter (by decide +kernel) (Nat.le_of_ble_eq_true rfl) ?_
  show mv_W md_BF_box 0 [.inr 2, .inl x, .inl y, .inl w, .inl h, .inr 0] [] M (0, 0) Q
  refine mx_aload_n d_BF_box_0 rfl (by omega) ?_
  refine mx_aload_n d_BF_box_1 rfl (by omega) ?_
  refine mx_gl d_BF_box_2 f_BF_14 hO rfl ?_
  refine mx_iload_n d_BF_box_5 rfl ?_
  refine mx_iload_n d_BF_box_6 rfl ?_
  refine mx_iload_n d_BF_box_7 rfl ?_
  refine mx_iload d_BF_box_8 rfl ?_
  refine mx_cV5 d_BF_box_10 c_BF_72 hO (by decide) (Nat.le_of_ble_eq_true rfl) ?_
  refine bf_addTo hO w1 w2 h1 h2 (by omega) hBx (by omega) hn0 rw_ rh_ (fun hon => ?_) (fun hon hful => ?_) (fun M' hon hlt hfr hR' => ?_)
  · skip
    refine mx_istore d_BF_box_13 (by decide) ?_
    refine mx_iload d_BF_box_15 rfl ?_
    refine mx_if_lt 28 d_BF_box_17 (by decide) (fun c17 => ?_) (fun c17 => ?_)
    · skip
      refine mx_iload d_BF_box_28 rfl ?_
      refine mx_ireturn d_BF_box_30 rfl ?_
      exact k1 hon
    · skip
      exfalso; omega
  · skip
    refine mx_istore d_BF_box_13 (by decide) ?_
    refine mx_iload d_BF_box_15 rfl ?_
    refine mx_if_lt 28 d_BF_box_17 (by decide) (fun c17 => ?_) (fun c17 => ?_)
    · skip
      refine mx_iload d_BF_box_28 rfl ?_
      refine mx_ireturn d_BF_box_30 rfl ?_
      exact k2 hon (by omega)
    · skip
      exfalso; omega
  · skip
    have hO2 := hO.fr hfr (by omega)
    have hPB2 : M'.2 46 = .inl (64, PB) := by rw [hfr 46 (by omega)]; exact hPB
    refine mx_istore d_BF_box_13 (by decide) ?_
    refine mx_iload d_BF_box_15 rfl ?_
    refine mx_if_lt 28 d_BF_box_17 (by decide) (fun c17 => ?_) (fun c17 => ?_)
    · skip
      exfalso; omega
    · skip
      refine mx_aload_n d_BF_box_20 rfl (by omega) ?_
      refine mx_gl d_BF_box_21 f_BF_54 hO2 rfl ?_
      refine mx_iload d_BF_box_24 rfl ?_
      refine mx_iconst (-1) d_BF_box_26 (by decide +kernel) (by unfold mv_r; omega) ?_
      refine mx_iast d_BF_box_27 hPB2 (by omega) (by omega) (by omega) ?_
      refine mx_iload d_BF_box_28 rfl ?_
      refine mx_ireturn d_BF_box_30 rfl ?_
      exact k3 _ hon (by omega) (fun j hj => by rw [mv_pn (by omega)]; exact hfr j (by omega)) (hR'.fr bf_fr1 (by omega)) mv_ps
theorem bf_frame {Q : List mv_V → mv_M → Prop} {M : mv_M} {W H t : Int} (hO : bf_O M W H t) (w1 : 1 ≤ W) (w2 : W ≤ 4096) (h1 : 1 ≤ H) (h2 : H ≤ 4096) {np : Int} {NL NU NR ND : Int → Int} (hPn : bf_R M 8 8 np NL NU NR ND) (hn0 : 0 ≤ np) {x y w h : Int} (rw_ : mv_r w) (rh_ : mv_r h) (k1 : ¬ bf_on W H x y w h → Q [.inl (-12)] M) (k2 : bf_on W H x y w h → 8 ≤ np → Q [.inl (-14)] M) (k3 : ∀ M', bf_on W H x y w h → np < 8 → bf_fr M M' 8 13 → bf_R M' 8 8 (np + 1) (mv_s NL np x) (mv_s NU np y) (mv_s NR np (x + w)) (mv_s ND np (y + h)) → Q [.inl np] M')  : mv_J md_BF_frame [.inr 2, .inl x, .inl y, .inl w, .inl h] M Q := by
  refine mv_enter (by decide +kernel) (Nat.le_of_ble_eq_true rfl) ?_
  show mv_W md_BF_frame 0 [.inr 2, .inl x, .inl y, .inl w, .inl h] [] M (0, 0) Q
  refine mx_aload_n d_BF_frame_0 rfl (by omega) ?_
  refine mx_aload_n d_BF_frame_1 rfl (by omega) ?_
  refine mx_gl d_BF_frame_2 f_BF_18 hO rfl ?_
  refine mx_iload_n d_BF_frame_5 rfl ?_
  refine mx_iload_n d_BF_frame_6 rfl ?_
  refine mx_iload_n d_BF_frame_7 rfl ?_
  refine mx_iload d_BF_frame_8 rfl ?_
  refine mx_cV5 d_BF_frame_10 c_BF_72 hO (by decide) (Nat.le_of_ble_eq_true rfl) ?_
  refine bf_addTo hO w1 w2 h1 h2 (by omega) hPn (by omega) hn0 rw_ rh_ (fun hon => ?_) (fun hon hful => ?_) (fun M' hon hlt hfr hR' => ?_)
  · skip
    refine mx_ireturn d_BF_frame_13 rfl ?_
    first | exact k1 hon | exact k2 hon hful | exact k3 M' hon hlt hfr hR'
  · skip
    refine mx_ireturn d_BF_frame_13 rfl ?_
    first | exact k1 hon | exact k2 hon hful | exact k3 M' hon hlt hfr hR'
  · skip
    refine mx_ireturn d_BF_frame_13 rfl ?_
    first | exact k1 hon | exact k2 hon hful | exact k3 M' hon hlt hfr hR'
end
section
/-! the class: find -/
theorem pu_grp_ok {n : Int} {f FL FU FR FD : Int → Int} {cnt : Int} {L U R D P LP GO : Int → Int} (h : pu_grp n f FL FU FR FD cnt L U R D P LP GO) (hb : bf_ok n FL FU FR FD) : bf_ok cnt L U R D := by
  intro g g0 g1
  obtain ⟨⟨a1, a, a2, a3, a4, a5⟩, ⟨b1, b, b2, b3, b4, b5⟩, ⟨c1, c, c2, c3, c4, c5⟩, ⟨d1, d, d2, d3, d4, d5⟩⟩ := h.2.2.2.2.2.2 g g0 g1
  have ha := hb a a2 a3
  have hb' := hb b b2 b3
  have hc := hb c c2 c3
  have hd := hb d d2 d3
  have e1 := c1 a a2 a3 a4
  have e2 := d1 b b2 b3 b4
  omega
def bf_3 (M : mv_M) (BS HB LB : Int → Int) : Prop := M.2 43 = .inl (64, BS) ∧ M.2 44 = .inl (64, HB) ∧ M.2 45 = .inl (64, LB)
theorem bf_3.fr {M M' : mv_M} {BS HB LB : Int → Int} (h : bf_3 M BS HB LB) {a b : Nat} (hf : bf_fr M M' a b) (hd : 46 ≤ a ∨ b ≤ 43) : bf_3 M' BS HB LB := by unfold bf_3; rw [hf 43 (by omega), hf 44 (by omega), hf 45 (by omega)]; exact h
theorem bf_ms2 {Q : List mv_V → mv_M → Prop} {M0 : mv_M} {W H t : Int} (hO0 : bf_O M0 W H t) {nb : Int} {BL BU BR BD : Int → Int} (hB0 : bf_R M0 3 64 nb BL BU BR BD) (hb : bf_ok nb BL BU BR BD) (hn0 : 0 ≤ nb) (hn : nb ≤ 64) {nl : Int} {LL LU LR LD LP LM LZ LG LO LX : Int → Int} (hL0 : bf_G M0 19 nl LL LU LR LD LP LM LZ LG LO LX) {nk : Int} {KL KU KR KD KP KM KZ KG KO KX : Int → Int} (hK0 : bf_G M0 31 nk KL KU KR KD KP KM KZ KG KO KX) (hnk0 : 0 ≤ nk) (hnk : nk ≤ 64) (ht : t = 0 ∨ t = 1) (hlg : ∀ j, 0 ≤ j → j < nb → 0 ≤ LG j ∧ LG j < 64 ∧ 0 ≤ KG (LG j) ∧ KG (LG j) < nk) (k : ∀ M' BS HB LB, bf_fr M0 M' 43 46 → bf_3 M' BS HB LB → pu_msr nb nk (fun j => KG (LG j)) (fun j => bf_o t BD BR j - bf_o t BU BL j) BS HB LB → Q [] M') : ∀ (d : Nat) (i : Int) (M : mv_M) (BS HB LB : Int → Int) (v2 v3 : mv_V), nb - i < d → 0 ≤ i → i ≤ nb → bf_fr M0 M 43 46 → bf_3 M BS HB LB → pu_msr i nk (fun j => KG (LG j)) (fun j => bf_o t BD BR j - bf_o t BU BL j) BS HB LB → mv_W md_BF_measureBoxesOfBlocks 44 [.inr 2, .inl i, v2, v3] [] M (0, 0) Q := by
  intro d
  induction d with
  | zero =>
    intro i M BS HB LB v2 v3 hd i0 i1 hfr h3 hI
    exfalso; omega
  | succ d ih =>
    intro i M BS HB LB v2 v3 hd i0 i1 hfr h3 hI
    have hO := hO0.fr hfr (by omega)
    have hBx := hB0.fr hfr (by omega)
    have hLn := hL0.fr hfr (by omega)
    have hBk := hK0.fr hfr (by omega)
    refine mx_iload_n d_BF_measureBoxesOfBlocks_44 rfl ?_
    refine mx_aload_n d_BF_measureBoxesOfBlocks_45 rfl (by omega) ?_
    refine mx_gl d_BF_measureBoxesOfBlocks_46 f_BF_14 hO rfl ?_
    refine mx_gl d_BF_measureBoxesOfBlocks_49 f_BF_110 hBx.1 rfl ?_
    refine mx_icmp_ge 122 d_BF_measureBoxesOfBlocks_52 (by decide) (fun c52 => ?_) (fun c52 => ?_)
    · skip
      refine mx_return d_BF_measureBoxesOfBlocks_122 rfl ?_
      exact k M BS HB LB hfr h3 ((show i = nb by omega) ▸ hI)
    · skip
      refine mx_aload_n d_BF_measureBoxesOfBlocks_55 rfl (by omega) ?_
      refine mx_iload_n d_BF_measureBoxesOfBlocks_56 rfl ?_
      refine mx_cV1 d_BF_measureBoxesOfBlocks_57 c_BF_114 hO (by decide) (Nat.le_of_ble_eq_true rfl) ?_
      have hgi := hlg i i0 (by omega)
      have hms := hI (KG (LG i)) hgi.2.2.1 hgi.2.2.2
      have hcl := pu_cnt_le (fun j => decide (KG (LG j) = KG (LG i))) i.toNat
      have hbo := bf_ob hb i0 (by omega) t
      refine bf_groupOfBox hO hLn hBk i0 (by omega) hgi.1 hgi.2.1 ?_
      refine mx_istore_n d_BF_measureBoxesOfBlocks_60 (by decide) ?_
      refine mx_aload_n d_BF_measureBoxesOfBlocks_61 rfl (by omega) ?_
      refine mx_gl d_BF_measureBoxesOfBlocks_62 f_BF_14 hO rfl ?_
      refine mx_iload_n d_BF_measureBoxesOfBlocks_65 rfl ?_
      refine mx_aload_n d_BF_measureBoxesOfBlocks_66 rfl (by omega) ?_
      refine mx_gl d_BF_measureBoxesOfBlocks_67 f_BF_57 hO rfl ?_
      refine mx_cV2 d_BF_measureBoxesOfBlocks_70 c_BF_174 hBx.1 (by decide) (Nat.le_of_ble_eq_true rfl) ?_
      refine bf_height (by omega) hBx hn hb i0 (by omega) ht ?_
      refine mx_istore_n d_BF_measureBoxesOfBlocks_73 (by decide) ?_
      refine mx_aload_n d_BF_measureBoxesOfBlocks_74 rfl (by omega) ?_
      refine mx_gl d_BF_measureBoxesOfBlocks_75 f_BF_44 hO rfl ?_
      refine mx_iload_n d_BF_measureBoxesOfBlocks_78 rfl ?_
      refine mx_dup2 d_BF_measureBoxesOfBlocks_79 ?_
      refine mx_iald d_BF_measureBoxesOfBlocks_80 h3.1 (by omega) (by omega) ?_
      refine mx_iconst (1) d_BF_measureBoxesOfBlocks_81 (by decide +kernel) (by unfold mv_r; omega) ?_
      refine mx_iadd d_BF_measureBoxesOfBlocks_82 (by have q1 : BS (KG (LG i)) = pu_cnt (fun j => decide (KG (LG j) = KG (LG i))) i.toNat := hms.1; unfold mv_r; omega) ?_
      refine mx_iast d_BF_measureBoxesOfBlocks_83 h3.1 (by omega) (by omega) (by omega) ?_
      refine mx_aload_n d_BF_measureBoxesOfBlocks_84 rfl (by omega) ?_
      refine mx_gl d_BF_measureBoxesOfBlocks_85 f_BF_48 (by rw [mv_pn (by omega)]; exact hO) rfl ?_
      refine mx_iload_n d_BF_measureBoxesOfBlocks_88 rfl ?_
      refine mx_aload_n d_BF_measureBoxesOfBlocks_89 rfl (by omega) ?_
      refine mx_gl d_BF_measureBoxesOfBlocks_90 f_BF_48 (by rw [mv_pn (by omega)]; exact hO) rfl ?_
      refine mx_iload_n d_BF_measureBoxesOfBlocks_93 rfl ?_
      refine mx_iald d_BF_measureBoxesOfBlocks_94 (by rw [mv_pn (by omega)]; exact h3.2.1) (by omega) (by omega) ?_
      refine mx_iload_n d_BF_measureBoxesOfBlocks_95 rfl ?_
      refine mx_max d_BF_measureBoxesOfBlocks_96 c_BF_146 (by decide) (Nat.le_of_ble_eq_true rfl) ?_
      refine mx_iast d_BF_measureBoxesOfBlocks_99 (by rw [mv_pn (by omega)]; exact h3.2.1) (by omega) (by omega) (by omega) ?_
      refine mx_aload_n d_BF_measureBoxesOfBlocks_100 rfl (by omega) ?_
      refine mx_gl d_BF_measureBoxesOfBlocks_101 f_BF_51 (by rw [mv_pn (by omega), mv_pn (by omega)]; exact hO) rfl ?_
      refine mx_iload_n d_BF_measureBoxesOfBlocks_104 rfl ?_
      refine mx_aload_n d_BF_measureBoxesOfBlocks_105 rfl (by omega) ?_
      refine mx_gl d_BF_measureBoxesOfBlocks_106 f_BF_51 (by rw [mv_pn (by omega), mv_pn (by omega)]; exact hO) rfl ?_
      refine mx_iload_n d_BF_measureBoxesOfBlocks_109 rfl ?_
      refine mx_iald d_BF_measureBoxesOfBlocks_110 (by rw [mv_pn (by omega), mv_pn (by omega)]; exact h3.2.2) (by omega) (by omega) ?_
      refine mx_iload_n d_BF_measureBoxesOfBlocks_111 rfl ?_
      refine mx_min d_BF_measureBoxesOfBlocks_112 c_BF_141 (by decide) (Nat.le_of_ble_eq_true rfl) ?_
      refine mx_iast d_BF_measureBoxesOfBlocks_115 (by rw [mv_pn (by omega), mv_pn (by omega)]; exact h3.2.2) (by omega) (by omega) (by omega) ?_
      refine mx_iinc d_BF_measureBoxesOfBlocks_116 rfl (by unfold mv_r; omega) ?_
      refine mx_goto 44 d_BF_measureBoxesOfBlocks_119 (by decide) ?_
      exact ih (i + 1) _ _ _ _ _ _ (by omega) (by omega) (by omega) (((hfr.put (by omega) (by omega)).put (by omega) (by omega)).put (by omega) (by omega)) ⟨by rw [mv_pn (by omega), mv_pn (by omega), mv_ps], by rw [mv_pn (by omega), mv_ps], mv_ps⟩ (pu_msr_s hI i0 rfl rfl (by omega) (by omega))
theorem bf_ms1 {Q : List mv_V → mv_M → Prop} {M0 : mv_M} {W H t : Int} (hO0 : bf_O M0 W H t) {nb : Int} {BL BU BR BD : Int → Int} (hB0 : bf_R M0 3 64 nb BL BU BR BD) (hb : bf_ok nb BL BU BR BD) (hn0 : 0 ≤ nb) (hn : nb ≤ 64) {nl : Int} {LL LU LR LD LP LM LZ LG LO LX : Int → Int} (hL0 : bf_G M0 19 nl LL LU LR LD LP LM LZ LG LO LX) {nk : Int} {KL KU KR KD KP KM KZ KG KO KX : Int → Int} (hK0 : bf_G M0 31 nk KL KU KR KD KP KM KZ KG KO KX) (hnk0 : 0 ≤ nk) (hnk : nk ≤ 64) (ht : t = 0 ∨ t = 1) (hlg : ∀ j, 0 ≤ j → j < nb → 0 ≤ LG j ∧ LG j < 64 ∧ 0 ≤ KG (LG j) ∧ KG (LG j) < nk) {v2 v3 : mv_V} (k : ∀ M' BS HB LB, bf_fr M0 M' 43 46 → bf_3 M' BS HB LB → (∀ b, 0 ≤ b → b < nk → BS b = 0 ∧ HB b = 0 ∧ LB b = 4096) → mv_W md_BF_measureBoxesOfBlocks 44 [.inr 2, .inl 0, v2, v3] [] M' (0, 0) Q) : ∀ (d : Nat) (i : Int) (M : mv_M) (BS HB LB : Int → Int), nk - i < d → 0 ≤ i → i ≤ nk → bf_fr M0 M 43 46 → bf_3 M BS HB LB → (∀ b, 0 ≤ b → b < i → BS b = 0 ∧ HB b = 0 ∧ LB b = 4096) → mv_W md_BF_measureBoxesOfBlocks 2 [.inr 2, .inl i, v2, v3] [] M (0, 0) Q := by
  intro d
  induction d with
  | zero =>
    intro i M BS HB LB hd i0 i1 hfr h3 hI
    exfalso; omega
  | succ d ih =>
    intro i M BS HB LB hd i0 i1 hfr h3 hI
    have hO := hO0.fr hfr (by omega)
    have hBx := hB0.fr hfr (by omega)
    have hLn := hL0.fr hfr (by omega)
    have hBk := hK0.fr hfr (by omega)
    refine mx_iload_n d_BF_measureBoxesOfBlocks_2 rfl ?_
    refine mx_aload_n d_BF_measureBoxesOfBlocks_3 rfl (by omega) ?_
    refine mx_gl d_BF_measureBoxesOfBlocks_4 f_BF_41 hO rfl ?_
    refine mx_cV0 d_BF_measureBoxesOfBlocks_7 c_BF_96 hBk.1 (by decide) (Nat.le_of_ble_eq_true rfl) ?_
    refine bf_size (by omega) hBk ?_
    refine mx_icmp_ge 42 d_BF_measureBoxesOfBlocks_10 (by decide) (fun c10 => ?_) (fun c10 => ?_)
    · skip
      refine mx_iconst (0) d_BF_measureBoxesOfBlocks_42 (by decide +kernel) (by unfold mv_r; omega) ?_
      refine mx_istore_n d_BF_measureBoxesOfBlocks_43 (by decide) ?_
      exact k M BS HB LB hfr h3 (fun b b0 b1 => hI b b0 (by omega))
    · skip
      refine mx_aload_n d_BF_measureBoxesOfBlocks_13 rfl (by omega) ?_
      refine mx_gl d_BF_measureBoxesOfBlocks_14 f_BF_44 hO rfl ?_
      refine mx_iload_n d_BF_measureBoxesOfBlocks_17 rfl ?_
      refine mx_iconst (0) d_BF_measureBoxesOfBlocks_18 (by decide +kernel) (by unfold mv_r; omega) ?_
      refine mx_iast d_BF_measureBoxesOfBlocks_19 h3.1 (by omega) (by omega) (by omega) ?_
      refine mx_aload_n d_BF_measureBoxesOfBlocks_20 rfl (by omega) ?_
      refine mx_gl d_BF_measureBoxesOfBlocks_21 f_BF_48 (by rw [mv_pn (by omega)]; exact hO) rfl ?_
      refine mx_iload_n d_BF_measureBoxesOfBlocks_24 rfl ?_
      refine mx_iconst (0) d_BF_measureBoxesOfBlocks_25 (by decide +kernel) (by unfold mv_r; omega) ?_
      refine mx_iast d_BF_measureBoxesOfBlocks_26 (by rw [mv_pn (by omega)]; exact h3.2.1) (by omega) (by omega) (by omega) ?_
      refine mx_aload_n d_BF_measureBoxesOfBlocks_27 rfl (by omega) ?_
      refine mx_gl d_BF_measureBoxesOfBlocks_28 f_BF_51 (by rw [mv_pn (by omega), mv_pn (by omega)]; exact hO) rfl ?_
      refine mx_iload_n d_BF_measureBoxesOfBlocks_31 rfl ?_
      refine mx_sipush (4096) d_BF_measureBoxesOfBlocks_32 (by decide +kernel) (by unfold mv_r; omega) ?_
      refine mx_iast d_BF_measureBoxesOfBlocks_35 (by rw [mv_pn (by omega), mv_pn (by omega)]; exact h3.2.2) (by omega) (by omega) (by omega) ?_
      refine mx_iinc d_BF_measureBoxesOfBlocks_36 rfl (by unfold mv_r; omega) ?_
      refine mx_goto 2 d_BF_measureBoxesOfBlocks_39 (by decide) ?_
      exact ih (i + 1) _ _ _ _ (by omega) (by omega) (by omega) (((hfr.put (by omega) (by omega)).put (by omega) (by omega)).put (by omega) (by omega)) ⟨by rw [mv_pn (by omega), mv_pn (by omega), mv_ps], by rw [mv_pn (by omega), mv_ps], mv_ps⟩ (fun b b0 b1 => by
        by_cases hbi : b = i
        · rw [hbi, mv_ss, mv_ss, mv_ss]; exact ⟨rfl, rfl, rfl⟩
        · rw [mv_sn hbi, mv_sn hbi, mv_sn hbi]; exact hI b b0 (by omega))
theorem bf_measure {Q : List mv_V → mv_M → Prop} {M : mv_M} {W H t : Int} (hO0 : bf_O M W H t) {nb : Int} {BL BU BR BD : Int → Int} (hB0 : bf_R M 3 64 nb BL BU BR BD) (hb : bf_ok nb BL BU BR BD) (hn0 : 0 ≤ nb) (hn : nb ≤ 64) {nl : Int} {LL LU LR LD LP LM LZ LG LO LX : Int → Int} (hL0 : bf_G M 19 nl LL LU LR LD LP LM LZ LG LO LX) {nk : Int} {KL KU KR KD KP KM KZ KG KO KX : Int → Int} (hK0 : bf_G M 31 nk KL KU KR KD KP KM KZ KG KO KX) (hnk0 : 0 ≤ nk) (hnk : nk ≤ 64) (ht : t = 0 ∨ t = 1) (hlg : ∀ j, 0 ≤ j → j < nb → 0 ≤ LG j ∧ LG j < 64 ∧ 0 ≤ KG (LG j) ∧ KG (LG j) < nk) {BS0 HB0 LB0 : Int → Int} (h3 : bf_3 M BS0 HB0 LB0) (k : ∀ M' BS HB LB, bf_fr M M' 43 46 → bf_3 M' BS HB LB → pu_msr nb nk (fun j => KG (LG j)) (fun j => bf_o t BD BR j - bf_o t BU BL j) BS HB LB → Q [] M') : mv_J md_BF_measureBoxesOfBlocks [.inr 2] M Q := by
  refine mv_enter (by decide +kernel) (Nat.le_of_ble_eq_true rfl) ?_
  show mv_W md_BF_measureBoxesOfBlocks 0 [.inr 2, .inr 0, .inr 0, .inr 0] [] M (0, 0) Q
  refine mx_iconst (0) d_BF_measureBoxesOfBlocks_0 (by decide +kernel) (by unfold mv_r; omega) ?_
  refine mx_istore_n d_BF_measureBoxesOfBlocks_1 (by decide) ?_
  refine bf_ms1 hO0 hB0 hb hn0 hn hL0 hK0 hnk0 hnk ht hlg (fun M' BS HB LB hfr h3' hz => ?_) (nk.toNat + 1) 0 M BS0 HB0 LB0 (by omega) (by omega) hnk0 bf_fr.refl h3 (fun b b0 b1 => by omega)
  exact bf_ms2 hO0 hB0 hb hn0 hn hL0 hK0 hnk0 hnk ht hlg k (nb.toNat + 1) 0 M' BS HB LB _ _ (by omega) (by omega) hn0 hfr h3' (pu_msr0 hz)
theorem bf_fp {Q : List mv_V → mv_M → Prop} {M0 : mv_M} {W H t : Int} (hO0 : bf_O M0 W H t) {nb : Int} {BL BU BR BD : Int → Int} (hB0 : bf_R M0 3 64 nb BL BU BR BD) (hb : bf_ok nb BL BU BR BD) (hn0 : 0 ≤ nb) (hn : nb ≤ 64) {nl : Int} {LL LU LR LD LP LM LZ LG LO LX : Int → Int} (hL0 : bf_G M0 19 nl LL LU LR LD LP LM LZ LG LO LX) {nk : Int} {KL KU KR KD KP KM KZ KG KO KX : Int → Int} (hK0 : bf_G M0 31 nk KL KU KR KD KP KM KZ KG KO KX) (hnk0 : 0 ≤ nk) (hnk : nk ≤ 64) (ht : t = 0 ∨ t = 1) (hlg : ∀ j, 0 ≤ j → j < nb → 0 ≤ LG j ∧ LG j < 64 ∧ 0 ≤ KG (LG j) ∧ KG (LG j) < nk) (k : ∀ M' PB, bf_fr M0 M' 46 47 → M'.2 46 = .inl (64, PB) → (∀ j, 0 ≤ j → j < nb → PB j = KX (KG (LG j))) → Q [.inl nk] M') : ∀ (d : Nat) (i : Int) (M : mv_M) (PB : Int → Int), nb - i < d → 0 ≤ i → i ≤ nb → bf_fr M0 M 46 47 → M.2 46 = .inl (64, PB) → (∀ j, 0 ≤ j → j < i → PB j = KX (KG (LG j))) → mv_W md_BF_find 156 [.inr 2, .inl i] [] M (0, 0) Q := by
  intro d
  induction d with
  | zero =>
    intro i M PB hd i0 i1 hfr hPB hI
    exfalso; omega
  | succ d ih =>
    intro i M PB hd i0 i1 hfr hPB hI
    have hO := hO0.fr hfr (by omega)
    have hBx := hB0.fr hfr (by omega)
    have hLn := hL0.fr hfr (by omega)
    have hBk := hK0.fr hfr (by omega)
    refine mx_iload_n d_BF_find_156 rfl ?_
    refine mx_aload_n d_BF_find_157 rfl (by omega) ?_
    refine mx_gl d_BF_find_158 f_BF_14 hO rfl ?_
    refine mx_gl d_BF_find_161 f_BF_110 hBx.1 rfl ?_
    refine mx_icmp_ge 192 d_BF_find_164 (by decide) (fun c164 => ?_) (fun c164 => ?_)
    · skip
      refine mx_aload_n d_BF_find_192 rfl (by omega) ?_
      refine mx_gl d_BF_find_193 f_BF_41 hO rfl ?_
      refine mx_cV0 d_BF_find_196 c_BF_96 hBk.1 (by decide) (Nat.le_of_ble_eq_true rfl) ?_
      refine bf_size (by omega) hBk ?_
      refine mx_ireturn d_BF_find_199 rfl ?_
      exact k M PB hfr hPB (fun j j0 j1 => hI j j0 (by omega))
    · skip
      refine mx_aload_n d_BF_find_167 rfl (by omega) ?_
      refine mx_gl d_BF_find_168 f_BF_54 hO rfl ?_
      refine mx_iload_n d_BF_find_171 rfl ?_
      refine mx_aload_n d_BF_find_172 rfl (by omega) ?_
      refine mx_gl d_BF_find_173 f_BF_41 hO rfl ?_
      refine mx_gl d_BF_find_176 f_BF_111 hBk.1 rfl ?_
      refine mx_aload_n d_BF_find_179 rfl (by omega) ?_
      refine mx_iload_n d_BF_find_180 rfl ?_
      refine mx_cV1 d_BF_find_181 c_BF_114 hO (by decide) (Nat.le_of_ble_eq_true rfl) ?_
      have hgi := hlg i i0 (by omega)
      refine bf_groupOfBox hO hLn hBk i0 (by omega) hgi.1 hgi.2.1 ?_
      refine mx_iald d_BF_find_184 hBk.2.2.2.2.2.2.2 (by omega) (by omega) ?_
      refine mx_iast d_BF_find_185 hPB (by omega) (by omega) (by omega) ?_
      refine mx_iinc d_BF_find_186 rfl (by unfold mv_r; omega) ?_
      refine mx_goto 156 d_BF_find_189 (by decide) ?_
      exact ih (i + 1) _ _ (by omega) (by omega) (by omega) (hfr.put (by omega) (by omega)) mv_ps (fun j j0 j1 => by
        by_cases hj : j = i
        · rw [hj, mv_ss]
        · rw [mv_sn hj]; exact hI j j0 (by omega))
end
section
/-! the class: find, put together -/
theorem bf_O.of {M M' : mv_M} {W H t : Int} (h : bf_O M W H t) (e : M'.2 2 = M.2 2) : bf_O M' W H t := by unfold bf_O; rw [e]; exact h
theorem bf_S.of {M M' : mv_M} {o : Nat} {m c : Int} {f : Int → Int} (h : bf_S M o m c f) (e : M'.2 o = M.2 o) (e2 : M'.2 (o + 1) = M.2 (o + 1)) : bf_S M' o m c f := by unfold bf_S; rw [e, e2]; exact h
theorem bf_f132 {Q : List mv_V → mv_M → Prop} {M : mv_M} {W H t : Int} (hO : bf_O M W H t) {nb : Int} {BL BU BR BD : Int → Int} (hBx : bf_R M 3 64 nb BL BU BR BD) (hb : bf_ok nb BL BU BR BD) (hn0 : 0 ≤ nb) (hn : nb ≤ 64) {nl : Int} {LL LU LR LD LP LM LG LO LX : Int → Int} (hLn : bf_G M 19 nl LL LU LR LD LP LM (fun _ => 0) LG LO LX) (hnl0 : 0 ≤ nl) (hnl : nl ≤ 64) (hbl : bf_ok nl LL LU LR LD) (ht : t = 0 ∨ t = 1) {nk : Int} {KL KU KR KD KP KM KZ KG KO KX : Int → Int} (hBk : bf_G M 31 nk KL KU KR KD KP KM KZ KG KO KX) (hnk0 : 0 ≤ nk) (hnk : nk ≤ 64) (hbk : bf_ok nk KL KU KR KD) (hlg : ∀ j, 0 ≤ j → j < nb → 0 ≤ LG j ∧ LG j < 64 ∧ 0 ≤ KG (LG j) ∧ KG (LG j) < nk) {PB0 : Int → Int} (hPB : M.2 46 = .inl (64, PB0)) {v1 : mv_V} (k : ∀ M' LO' LX' KO' KX' PB, (∀ j, (j < 19 ∨ (43 ≤ j ∧ j ≠ 46)) → M'.2 j = M.2 j) → bf_G M' 19 nl LL LU LR LD LP LM (fun _ => 0) LG LO' LX' → bf_G M' 31 nk KL KU KR KD KP KM KZ KG KO' KX' → M'.2 46 = .inl (64, PB) → pu_ord nl LO' (bf_cb t LL LU (fun _ => 0)) → (∀ p, 0 ≤ p → p < nl → LX' (LO' p) = p) → pu_ord nk KO' (bf_cb t KL KU KZ) → (∀ p, 0 ≤ p → p < nk → KX' (KO' p) = p) → (∀ j, 0 ≤ j → j < nb → PB j = KX' (KG (LG j))) → Q [.inl nk] M') : mv_W md_BF_find 132 [.inr 2, v1] [] M (0, 0) Q := by
  refine mx_aload_n d_BF_find_132 rfl (by omega) ?_
  refine mx_gl d_BF_find_133 f_BF_37 hO rfl ?_
  refine mx_aload_n d_BF_find_136 rfl (by omega) ?_
  refine mx_gl d_BF_find_137 f_BF_57 hO rfl ?_
  refine mx_cV1 d_BF_find_140 c_BF_106 hLn.1 (by decide) (Nat.le_of_ble_eq_true rfl) ?_
  refine bf_putInOrder (by omega) hLn hnl hnl0 hbl ht (fun M1 LO1 LX1 hfr1 hLn1 hor1 hpl1 => ?_)
  have hOa := hO.fr hfr1 (by omega)
  have hBka := hBk.fr hfr1 (by omega)
  refine mx_aload_n d_BF_find_143 rfl (by omega) ?_
  refine mx_gl d_BF_find_144 f_BF_41 hOa rfl ?_
  refine mx_aload_n d_BF_find_147 rfl (by omega) ?_
  refine mx_gl d_BF_find_148 f_BF_57 hOa rfl ?_
  refine mx_cV1 d_BF_find_151 c_BF_106 hBka.1 (by decide) (Nat.le_of_ble_eq_true rfl) ?_
  refine bf_putInOrder (by omega) hBka hnk hnk0 hbk ht (fun M2 KO2 KX2 hfr2 hBk2 hor2 hpl2 => ?_)
  have hOb := hOa.fr hfr2 (by omega)
  have hLnb := hLn1.fr hfr2 (by omega)
  have hBxb := (hBx.fr hfr1 (by omega)).fr hfr2 (by omega)
  have hPBb : M2.2 46 = .inl (64, PB0) := by rw [hfr2 46 (by omega), hfr1 46 (by omega)]; exact hPB
  refine mx_iconst (0) d_BF_find_154 (by decide +kernel) (by unfold mv_r; omega) ?_
  refine mx_istore_n d_BF_find_155 (by decide) ?_
  exact bf_fp hOb hBxb hb hn0 hn hLnb hBk2 hnk0 hnk ht hlg (fun M3 PB3 hfr3 hPB3 hpb3 => k M3 LO1 LX1 KO2 KX2 PB3 (fun j hj => by rw [hfr3 j (by omega), hfr2 j (by omega), hfr1 j (by omega)]) (hLnb.fr hfr3 (by omega)) (hBk2.fr hfr3 (by omega)) hPB3 hor1 hpl1 hor2 hpl2 hpb3) (nb.toNat + 1) 0 M2 PB0 (by omega) (by omega) hn0 bf_fr.refl hPBb (fun j j0 j1 => by omega)
theorem bf_f101 {Q : List mv_V → mv_M → Prop} {M0 : mv_M} {W H t : Int} (hO0 : bf_O M0 W H t) {nb : Int} {BL BU BR BD : Int → Int} (hB0 : bf_R M0 3 64 nb BL BU BR BD) (hb : bf_ok nb BL BU BR BD) (hn0 : 0 ≤ nb) (hn : nb ≤ 64) {nl : Int} {LL LU LR LD LP LM LG LO LX : Int → Int} (hL0 : bf_G M0 19 nl LL LU LR LD LP LM (fun _ => 0) LG LO LX) (hnl0 : 0 ≤ nl) (hnl : nl ≤ 64) (hbl : bf_ok nl LL LU LR LD) (ht : t = 0 ∨ t = 1) {np : Int} {NL NU NR ND : Int → Int} (hPn : bf_R M0 8 8 np NL NU NR ND) (np0 : 0 ≤ np) (np8 : np ≤ 8) (w1 : 1 ≤ W) (w2 : W ≤ 4096) (h1 : 1 ≤ H) (h2 : H ≤ 4096) {nk : Int} {KL KU KR KD KP KM KG KO KX : Int → Int} (hnk0 : 0 ≤ nk) (hnk : nk ≤ 64) (hbk : bf_ok nk KL KU KR KD) (hlg : ∀ j, 0 ≤ j → j < nb → 0 ≤ LG j ∧ LG j < 64 ∧ 0 ≤ KG (LG j) ∧ KG (LG j) < nk) {PB0 : Int → Int} (hPB0 : M0.2 46 = .inl (64, PB0)) (k : ∀ M' LO' LX' KZ' KO' KX' PB, (∀ j, (j < 19 ∨ (43 ≤ j ∧ j ≠ 46)) → M'.2 j = M0.2 j) → (∀ b, 0 ≤ b → b < nk → bf_pts W H np NL NU NR ND KL KU KR KD KP b (KZ' b)) → bf_G M' 19 nl LL LU LR LD LP LM (fun _ => 0) LG LO' LX' → bf_G M' 31 nk KL KU KR KD KP KM KZ' KG KO' KX' → M'.2 46 = .inl (64, PB) → pu_ord nl LO' (bf_cb t LL LU (fun _ => 0)) → (∀ p, 0 ≤ p → p < nl → LX' (LO' p) = p) → pu_ord nk KO' (bf_cb t KL KU KZ') → (∀ p, 0 ≤ p → p < nk → KX' (KO' p) = p) → (∀ j, 0 ≤ j → j < nb → PB j = KX' (KG (LG j))) → Q [.inl nk] M') : ∀ (d : Nat) (i : Int) (M : mv_M) (KZ : Int → Int), nk - i < d → 0 ≤ i → i ≤ nk → bf_fr M0 M 31 43 → bf_G M 31 nk KL KU KR KD KP KM KZ KG KO KX → (∀ b, 0 ≤ b → b < i → bf_pts W H np NL NU NR ND KL KU KR KD KP b (KZ b)) → mv_W md_BF_find 101 [.inr 2, .inl i] [] M (0, 0) Q := by
  intro d
  induction d with
  | zero =>
    intro i M KZ hd i0 i1 hfr hBk hI
    exfalso; omega
  | succ d ih =>
    intro i M KZ hd i0 i1 hfr hBk hI
    have hO := hO0.fr hfr (by omega)
    have hBx := hB0.fr hfr (by omega)
    have hLn := hL0.fr hfr (by omega)
    have hPn' := hPn.fr hfr (by omega)
    have hPB : M.2 46 = .inl (64, PB0) := by rw [hfr 46 (by omega)]; exact hPB0
    refine mx_iload_n d_BF_find_101 rfl ?_
    refine mx_aload_n d_BF_find_102 rfl (by omega) ?_
    refine mx_gl d_BF_find_103 f_BF_41 hO rfl ?_
    refine mx_cV0 d_BF_find_106 c_BF_96 hBk.1 (by decide) (Nat.le_of_ble_eq_true rfl) ?_
    refine bf_size (by omega) hBk ?_
    refine mx_icmp_ge 132 d_BF_find_109 (by decide) (fun c109 => ?_) (fun c109 => ?_)
    · skip
      exact bf_f132 hO hBx hb hn0 hn hLn hnl0 hnl hbl ht hBk hnk0 hnk hbk hlg hPB (fun M' LO' LX' KO' KX' PB hf => k M' LO' LX' KZ KO' KX' PB (fun j hj => by rw [hf j hj, hfr j (by omega)]) (fun b b0 b1 => hI b b0 (by omega)))
    · skip
      refine mx_aload_n d_BF_find_112 rfl (by omega) ?_
      refine mx_gl d_BF_find_113 f_BF_41 hO rfl ?_
      refine mx_gl d_BF_find_116 f_BF_100 hBk.1 rfl ?_
      refine mx_iload_n d_BF_find_119 rfl ?_
      refine mx_aload_n d_BF_find_120 rfl (by omega) ?_
      refine mx_iload_n d_BF_find_121 rfl ?_
      refine mx_cV1 d_BF_find_122 c_BF_103 hO (by decide) (Nat.le_of_ble_eq_true rfl) ?_
      refine bf_judge hO hBk hPn' np0 np8 w1 w2 h1 h2 i0 (by omega) hnk hbk (fun r hr => ?_)
      refine mx_iast d_BF_find_125 hBk.2.2.2.2.1 (by omega) (by omega) (by omega) ?_
      refine mx_iinc d_BF_find_126 rfl (by unfold mv_r; omega) ?_
      refine mx_goto 101 d_BF_find_129 (by decide) ?_
      exact ih (i + 1) _ _ (by omega) (by omega) (by omega) (hfr.put (by omega) (by omega)) hBk.pZ (fun b b0 b1 => by
        by_cases hbi : b = i
        · rw [hbi, mv_ss]; exact hr
        · rw [mv_sn hbi]; exact hI b b0 (by omega))
/-- what find leaves behind, lines being of the labels ft -/
def bf_F2 (W H nb : Int) (BL BU BR BD : Int → Int) (np : Int) (NL NU NR ND : Int → Int) (t : Int) (ft : Int → Int) (nl : Int) (LL LU LR LD LP LM LG LO LX : Int → Int) (nk : Int) (KL KU KR KD KP KM KZ KG KO KX BS HB LB : Int → Int) : Prop :=
  pu_grp nb ft BL BU BR BD nl LL LU LR LD LP LM LG ∧ (∃ fl, pu_lab nl (fun a b => a < b ∧ bf_nl t LL LU LR LD a b) fl ∧ pu_grp nl fl LL LU LR LD nk KL KU KR KD KP KM KG) ∧ pu_msr nb nk (fun j => KG (LG j)) (fun j => bf_o t BD BR j - bf_o t BU BL j) BS HB LB ∧ (∀ b, 0 ≤ b → b < nk → bf_pts W H np NL NU NR ND KL KU KR KD KP b (KZ b)) ∧ pu_ord nl LO (bf_cb t LL LU (fun _ => 0)) ∧ (∀ p, 0 ≤ p → p < nl → LX (LO p) = p) ∧ pu_ord nk KO (bf_cb t KL KU KZ) ∧ (∀ p, 0 ≤ p → p < nk → KX (KO p) = p)
theorem bf_f73 {Q : List mv_V → mv_M → Prop} {M : mv_M} {W H t : Int} (hO : bf_O M W H t) {nb : Int} {BL BU BR BD : Int → Int} (hBx : bf_R M 3 64 nb BL BU BR BD) (hb : bf_ok nb BL BU BR BD) (hn0 : 0 ≤ nb) (hn : nb ≤ 64) {nl : Int} {LL LU LR LD LP LM LG LO LX : Int → Int} (hLn : bf_G M 19 nl LL LU LR LD LP LM (fun _ => 0) LG LO LX) (hnl0 : 0 ≤ nl) (hnl : nl ≤ 64) (hbl : bf_ok nl LL LU LR LD) (ht : t = 0 ∨ t = 1) {np : Int} {NL NU NR ND : Int → Int} (hPn : bf_R M 8 8 np NL NU NR ND) (np0 : 0 ≤ np) (np8 : np ≤ 8) (w1 : 1 ≤ W) (w2 : W ≤ 4096) (h1 : 1 ≤ H) (h2 : H ≤ 4096) {mem sc : Int} {fs : Int → Int} (hS3 : bf_S M 17 mem sc fs) {nk0 : Int} {KL KU KR KD KP KM KZ KG KO KX : Int → Int} (hBk : bf_G M 31 nk0 KL KU KR KD KP KM KZ KG KO KX) {BS HB LB PB0 : Int → Int} (h3 : bf_3 M BS HB LB) (hPB : M.2 46 = .inl (64, PB0)) {ft : Int → Int} (hgr : pu_grp nb ft BL BU BR BD nl LL LU LR LD LP LM LG) (k : ∀ M' LO' LX' nk' KL' KU' KR' KD' KP' KM' KZ' KG' KO' KX' BS' HB' LB' PB, (∀ j, (j < 17 ∨ 47 ≤ j) → M'.2 j = M.2 j) → (∃ m c f, bf_S M' 17 m c f) → bf_G M' 19 nl LL LU LR LD LP LM (fun _ => 0) LG LO' LX' → bf_G M' 31 nk' KL' KU' KR' KD' KP' KM' KZ' KG' KO' KX' → bf_3 M' BS' HB' LB' → M'.2 46 = .inl (64, PB) → (∀ j, 0 ≤ j → j < nb → PB j = KX' (KG' (LG j))) → bf_F2 W H nb BL BU BR BD np NL NU NR ND t ft nl LL LU LR LD LP LM LG LO' LX' nk' KL' KU' KR' KD' KP' KM' KZ' KG' KO' KX' BS' HB' LB' → Q [.inl nk'] M') : mv_W md_BF_find 73 [.inr 2, .inr 0] [] M (0, 0) Q := by
  refine mx_aload_n d_BF_find_73 rfl (by omega) ?_
  refine mx_cV0 d_BF_find_74 c_BF_87 hO (by decide) (Nat.le_of_ble_eq_true rfl) ?_
  refine bf_joinLines hO hLn hbl hnl0 hnl ht hS3 (fun M1 c1 fl hfr1 hS31 hlab1 _ => ?_)
  have hO1 := hO.fr hfr1 (by omega)
  have hLn1 := hLn.fr hfr1 (by omega)
  have hBk1 := hBk.fr hfr1 (by omega)
  refine mx_aload_n d_BF_find_77 rfl (by omega) ?_
  refine mx_gl d_BF_find_78 f_BF_41 hO1 rfl ?_
  refine mx_aload_n d_BF_find_81 rfl (by omega) ?_
  refine mx_gl d_BF_find_82 f_BF_37 hO1 rfl ?_
  refine mx_gl d_BF_find_85 f_BF_90 hLn1.1 rfl ?_
  refine mx_aload_n d_BF_find_88 rfl (by omega) ?_
  refine mx_gl d_BF_find_89 f_BF_31 hO1 rfl ?_
  refine mx_cV2 d_BF_find_92 c_BF_83 hBk1.1 (by decide) (Nat.le_of_ble_eq_true rfl) ?_
  refine bf_gather (by omega) hBk1 (by omega) (by omega) (by omega) (by omega) hLn1.2.1 hS31 hnl0 hnl (by omega) hlab1.1 (fun M2 nk KL2 KU2 KR2 KD2 KP2 KM2 KG2 hfr2 hBk2 hgr2 => ?_)
  have hO2 := hO1.fr hfr2 (by omega)
  have hLn2 := hLn1.fr hfr2 (by omega)
  have hbk2 := pu_grp_ok hgr2 hbl
  have hnk2 := hgr2.1
  have hlg2 : ∀ j, 0 ≤ j → j < nb → 0 ≤ LG j ∧ LG j < 64 ∧ 0 ≤ KG2 (LG j) ∧ KG2 (LG j) < nk := fun j j0 j1 => by
    have q1 := hgr.2.1 j j0 j1
    have q2 := hgr2.2.1 (LG j) q1.1 q1.2.1
    exact ⟨q1.1, by omega, q2.1, q2.2.1⟩
  refine mx_aload_n d_BF_find_95 rfl (by omega) ?_
  refine mx_cV0 d_BF_find_96 c_BF_93 hO2 (by decide) (Nat.le_of_ble_eq_true rfl) ?_
  refine bf_measure hO2 ((hBx.fr hfr1 (by omega)).fr hfr2 (by omega)) hb hn0 hn hLn2 hBk2 hnk2.1 (by omega) ht hlg2 ((h3.fr hfr1 (by omega)).fr hfr2 (by omega)) (fun M3 BS3 HB3 LB3 hfr3 h33 hms3 => ?_)
  have hO3 := hO2.fr hfr3 (by omega)
  refine mx_iconst (0) d_BF_find_99 (by decide +kernel) (by unfold mv_r; omega) ?_
  refine mx_istore_n d_BF_find_100 (by decide) ?_
  have hPB3 : M3.2 46 = .inl (64, PB0) := by rw [hfr3 46 (by omega), hfr2 46 (by omega), hfr1 46 (by omega)]; exact hPB
  refine bf_f101 hO3 (((hBx.fr hfr1 (by omega)).fr hfr2 (by omega)).fr hfr3 (by omega)) hb hn0 hn (hLn2.fr hfr3 (by omega)) hnl0 hnl hbl ht (((hPn.fr hfr1 (by omega)).fr hfr2 (by omega)).fr hfr3 (by omega)) np0 np8 w1 w2 h1 h2 hnk2.1 (by omega) hbk2 hlg2 hPB3 (fun M' LO' LX' KZ' KO' KX' PB hf hpt e1 e2 e3 e4 e5 e6 e7 e8 => ?_) (nk.toNat + 1) 0 M3 KZ (by omega) (by omega) hnk2.1 bf_fr.refl (hBk2.fr hfr3 (by omega)) (fun b b0 b1 => by omega)
  exact k M' LO' LX' nk KL2 KU2 KR2 KD2 KP2 KM2 KZ' KG2 KO' KX' BS3 HB3 LB3 PB (fun j hj => by rw [hf j (by omega), hfr3 j (by omega), hfr2 j (by omega), hfr1 j (by omega)]) ⟨_, _, _, ((hS31.fr hfr2 (by omega)).fr hfr3 (by omega)).of (hf 17 (by omega)) (hf 18 (by omega))⟩ e1 e2 ⟨by rw [hf 43 (by omega)]; exact h33.1, by rw [hf 44 (by omega)]; exact h33.2.1, by rw [hf 45 (by omega)]; exact h33.2.2⟩ e3 e8 ⟨hgr, ⟨fl, hlab1, hgr2⟩, hms3, hpt, e4, e5, e6, e7⟩
def bf_lab2 (nb : Int) (BL BU BR BD : Int → Int) (t : Int) (ft : Int → Int) : Prop := ∃ f0 f1, pu_lab nb (fun a b => a < b ∧ bf_nb 0 BL BU BR BD a b) f0 ∧ pu_lab nb (fun a b => a < b ∧ bf_nb 1 BL BU BR BD a b) f1 ∧ ((pu_cnt (fun m => decide (f1 m = m)) nb.toNat < pu_cnt (fun m => decide (f0 m = m)) nb.toNat ∧ t = 1 ∧ ft = f1) ∨ (¬ pu_cnt (fun m => decide (f1 m = m)) nb.toNat < pu_cnt (fun m => decide (f0 m = m)) nb.toNat ∧ t = 0 ∧ ft = f0))
theorem bf_find {Q : List mv_V → mv_M → Prop} {M : mv_M} {W H t : Int} (hO : bf_O M W H t) {nb : Int} {BL BU BR BD : Int → Int} (hBx : bf_R M 3 64 nb BL BU BR BD) (hb : bf_ok nb BL BU BR BD) (hn0 : 0 ≤ nb) (hn : nb ≤ 64) {np : Int} {NL NU NR ND : Int → Int} (hPn : bf_R M 8 8 np NL NU NR ND) (np0 : 0 ≤ np) (np8 : np ≤ 8) (w1 : 1 ≤ W) (w2 : W ≤ 4096) (h1 : 1 ≤ H) (h2 : H ≤ 4096) {m1 c1 m2 c2 m3 c3 : Int} {s1 s2 s3 : Int → Int} (hS1 : bf_S M 13 m1 c1 s1) (hS2 : bf_S M 15 m2 c2 s2) (hS3 : bf_S M 17 m3 c3 s3) {nl0 : Int} {L1 L2 L3 L4 L5 L6 L7 L8 L9 : Int → Int} (hLn : bf_G M 19 nl0 L1 L2 L3 L4 L5 L6 (fun _ => 0) L7 L8 L9) {nk0 : Int} {KL KU KR KD KP KM KZ KG KO KX : Int → Int} (hBk : bf_G M 31 nk0 KL KU KR KD KP KM KZ KG KO KX) {BS HB LB PB0 : Int → Int} (h3 : bf_3 M BS HB LB) (hPB : M.2 46 = .inl (64, PB0)) (k : ∀ M' t' ft nl' LL LU LR LD LP LM LG LO' LX' nk' KL' KU' KR' KD' KP' KM' KZ' KG' KO' KX' BS' HB' LB' PB, (∀ j, (j < 2 ∨ (3 ≤ j ∧ j < 13) ∨ 47 ≤ j) → M'.2 j = M.2 j) → bf_O M' W H t' → (∃ m c f, bf_S M' 13 m c f) → (∃ m c f, bf_S M' 15 m c f) → (∃ m c f, bf_S M' 17 m c f) → bf_lab2 nb BL BU BR BD t' ft → bf_G M' 19 nl' LL LU LR LD LP LM (fun _ => 0) LG LO' LX' → bf_G M' 31 nk' KL' KU' KR' KD' KP' KM' KZ' KG' KO' KX' → bf_3 M' BS' HB' LB' → M'.2 46 = .inl (64, PB) → (∀ j, 0 ≤ j → j < nb → PB j = KX' (KG' (LG j))) → bf_F2 W H nb BL BU BR BD np NL NU NR ND t' ft nl' LL LU LR LD LP LM LG LO' LX' nk' KL' KU' KR' KD' KP' KM' KZ' KG' KO' KX' BS' HB' LB' → Q [.inl nk'] M') : mv_J md_BF_find [.inr 2] M Q := by
  refine mv_enter (by decide +kernel) (Nat.le_of_ble_eq_true rfl) ?_
  show mv_W md_BF_find 0 [.inr 2, .inr 0] [] M (0, 0) Q
  refine mx_aload_n d_BF_find_0 rfl (by omega) ?_
  refine mx_aload_n d_BF_find_1 rfl (by omega) ?_
  refine mx_gl d_BF_find_2 f_BF_24 hO rfl ?_
  refine mx_iconst (0) d_BF_find_5 (by decide +kernel) (by unfold mv_r; omega) ?_
  refine mx_cV2 d_BF_find_6 c_BF_76 hO (by decide) (Nat.le_of_ble_eq_true rfl) ?_
  refine bf_joinBoxes hO hBx hb hn0 hn (by omega) (Or.inl rfl) hS1 (fun Ma c0 f0 hfa hS1a hlab0 hc0 => ?_)
  have hOa := hO.fr hfa (by omega)
  have hS2a := hS2.fr hfa (by omega)
  refine mx_aload_n d_BF_find_9 rfl (by omega) ?_
  refine mx_aload_n d_BF_find_10 rfl (by omega) ?_
  refine mx_gl d_BF_find_11 f_BF_28 hOa rfl ?_
  refine mx_iconst (1) d_BF_find_14 (by decide +kernel) (by unfold mv_r; omega) ?_
  refine mx_cV2 d_BF_find_15 c_BF_76 hOa (by decide) (Nat.le_of_ble_eq_true rfl) ?_
  refine bf_joinBoxes hOa (hBx.fr hfa (by omega)) hb hn0 hn (by omega) (Or.inr rfl) hS2a (fun Mb c1 f1 hfb hS2b hlab1 hc1 => ?_)
  have hOb := hOa.fr hfb (by omega)
  have hS1b := hS1a.fr hfb (by omega)
  refine mx_aload_n d_BF_find_18 rfl (by omega) ?_
  refine mx_aload_n d_BF_find_19 rfl (by omega) ?_
  refine mx_gl d_BF_find_20 f_BF_28 hOb rfl ?_
  refine mx_gl d_BF_find_23 f_BF_80 hS2b.1 rfl ?_
  refine mx_aload_n d_BF_find_26 rfl (by omega) ?_
  refine mx_gl d_BF_find_27 f_BF_24 hOb rfl ?_
  refine mx_gl d_BF_find_30 f_BF_80 hS1b.1 rfl ?_
  refine mx_icmp_ge 40 d_BF_find_33 (by decide) (fun c33 => ?_) (fun c33 => ?_)
  · skip
    refine mx_iconst (0) d_BF_find_40 (by decide +kernel) (by unfold mv_r; omega) ?_
    refine mx_pl d_BF_find_41 g_BF_57 hOb (mv_Vz (by omega)) (Nat.le_of_ble_eq_true rfl) ?_
    have hfc : bf_fr Mb (mv_p Mb 2 (.inr (ki_BF, mv_l [.inl W, .inl H, .inr 3, .inr 8, .inr 13, .inr 15, .inr 17, .inr 19, .inr 31, .inr 43, .inr 44, .inr 45, .inr 46, .inl 0]))) 2 3 := fun j hj => mv_pn (by omega)
    have hOc : bf_O (mv_p Mb 2 (.inr (ki_BF, mv_l [.inl W, .inl H, .inr 3, .inr 8, .inr 13, .inr 15, .inr 17, .inr 19, .inr 31, .inr 43, .inr 44, .inr 45, .inr 46, .inl 0]))) W H 0 := mv_ps
    show mv_W md_BF_find 44 [.inr 2, .inr 0] [] (mv_p Mb 2 (.inr (ki_BF, mv_l [.inl W, .inl H, .inr 3, .inr 8, .inr 13, .inr 15, .inr 17, .inr 19, .inr 31, .inr 43, .inr 44, .inr 45, .inr 46, .inl 0]))) (0, 0) Q
    generalize mv_p Mb 2 _ = Mc at hfc hOc ⊢
    have hS1c := hS1b.fr hfc (by omega)
    have hS2c := hS2b.fr hfc (by omega)
    have hBxc := ((hBx.fr hfa (by omega)).fr hfb (by omega)).fr hfc (by omega)
    have hLnc := ((hLn.fr hfa (by omega)).fr hfb (by omega)).fr hfc (by omega)
    refine mx_aload_n d_BF_find_44 rfl (by omega) ?_
    refine mx_gl d_BF_find_45 f_BF_37 hOc rfl ?_
    refine mx_aload_n d_BF_find_48 rfl (by omega) ?_
    refine mx_gl d_BF_find_49 f_BF_14 hOc rfl ?_
    refine mx_aload_n d_BF_find_52 rfl (by omega) ?_
    refine mx_gl d_BF_find_53 f_BF_57 hOc rfl ?_
    refine mx_if_eq 66 d_BF_find_56 (by decide) (fun c56 => ?_) (fun c56 => ?_)
    · skip
      refine mx_aload_n d_BF_find_66 rfl (by omega) ?_
      refine mx_gl d_BF_find_67 f_BF_24 hOc rfl ?_
      refine mx_cV2 d_BF_find_70 c_BF_83 hLnc.1 (by decide) (Nat.le_of_ble_eq_true rfl) ?_
      refine bf_gather (by omega) hLnc (by omega) (by omega) (by omega) (by omega) hBxc hS1c hn0 hn (by omega) hlab0.1 (fun Md nl LL LU LR LD LP LM LG hfrd hLnd hgrd => ?_)
      have hbl := pu_grp_ok hgrd hb
      have hnl := hgrd.1
      exact bf_f73 (t := 0) (hOc.fr hfrd (by omega)) (hBxc.fr hfrd (by omega)) hb hn0 hn hLnd hnl.1 (by omega) hbl (by omega) ((((hPn.fr hfa (by omega)).fr hfb (by omega)).fr hfc (by omega)).fr hfrd (by omega)) np0 np8 w1 w2 h1 h2 ((((hS3.fr hfa (by omega)).fr hfb (by omega)).fr hfc (by omega)).fr hfrd (by omega)) ((((hBk.fr hfa (by omega)).fr hfb (by omega)).fr hfc (by omega)).fr hfrd (by omega)) ((((h3.fr hfa (by omega)).fr hfb (by omega)).fr hfc (by omega)).fr hfrd (by omega)) (by rw [hfrd 46 (by omega), hfc 46 (by omega), hfb 46 (by omega), hfa 46 (by omega)]; exact hPB) hgrd (fun M' LO' LX' nk' KL' KU' KR' KD' KP' KM' KZ' KG' KO' KX' BS' HB' LB' PB hf hs3 e1 e2 e3 e4 e5 e6 => k M' 0 f0 nl LL LU LR LD LP LM LG LO' LX' nk' KL' KU' KR' KD' KP' KM' KZ' KG' KO' KX' BS' HB' LB' PB (fun j hj => by rw [hf j (by omega), hfrd j (by omega), hfc j (by omega), hfb j (by omega), hfa j (by omega)]) ((hOc.fr hfrd (by omega)).of (hf 2 (by omega))) ⟨_, _, _, (hS1c.fr hfrd (by omega)).of (hf 13 (by omega)) (hf 14 (by omega))⟩ ⟨_, _, _, (hS2c.fr hfrd (by omega)).of (hf 15 (by omega)) (hf 16 (by omega))⟩ hs3 ⟨f0, f1, hlab0, hlab1, Or.inr ⟨by omega, rfl, rfl⟩⟩ e1 e2 e3 e4 e5 e6)
    · skip
      exfalso; omega
  · skip
    refine mx_iconst (1) d_BF_find_36 (by decide +kernel) (by unfold mv_r; omega) ?_
    refine mx_goto 41 d_BF_find_37 (by decide) ?_
    refine mx_pl d_BF_find_41 g_BF_57 hOb (mv_Vz (by omega)) (Nat.le_of_ble_eq_true rfl) ?_
    have hfc : bf_fr Mb (mv_p Mb 2 (.inr (ki_BF, mv_l [.inl W, .inl H, .inr 3, .inr 8, .inr 13, .inr 15, .inr 17, .inr 19, .inr 31, .inr 43, .inr 44, .inr 45, .inr 46, .inl 1]))) 2 3 := fun j hj => mv_pn (by omega)
    have hOc : bf_O (mv_p Mb 2 (.inr (ki_BF, mv_l [.inl W, .inl H, .inr 3, .inr 8, .inr 13, .inr 15, .inr 17, .inr 19, .inr 31, .inr 43, .inr 44, .inr 45, .inr 46, .inl 1]))) W H 1 := mv_ps
    show mv_W md_BF_find 44 [.inr 2, .inr 0] [] (mv_p Mb 2 (.inr (ki_BF, mv_l [.inl W, .inl H, .inr 3, .inr 8, .inr 13, .inr 15, .inr 17, .inr 19, .inr 31, .inr 43, .inr 44, .inr 45, .inr 46, .inl 1]))) (0, 0) Q
    generalize mv_p Mb 2 _ = Mc at hfc hOc ⊢
    have hS1c := hS1b.fr hfc (by omega)
    have hS2c := hS2b.fr hfc (by omega)
    have hBxc := ((hBx.fr hfa (by omega)).fr hfb (by omega)).fr hfc (by omega)
    have hLnc := ((hLn.fr hfa (by omega)).fr hfb (by omega)).fr hfc (by omega)
    refine mx_aload_n d_BF_find_44 rfl (by omega) ?_
    refine mx_gl d_BF_find_45 f_BF_37 hOc rfl ?_
    refine mx_aload_n d_BF_find_48 rfl (by omega) ?_
    refine mx_gl d_BF_find_49 f_BF_14 hOc rfl ?_
    refine mx_aload_n d_BF_find_52 rfl (by omega) ?_
    refine mx_gl d_BF_find_53 f_BF_57 hOc rfl ?_
    refine mx_if_eq 66 d_BF_find_56 (by decide) (fun c56 => ?_) (fun c56 => ?_)
    · skip
      exfalso; omega
    · skip
      refine mx_aload_n d_BF_find_59 rfl (by omega) ?_
      refine mx_gl d_BF_find_60 f_BF_28 hOc rfl ?_
      refine mx_goto 70 d_BF_find_63 (by decide) ?_
      refine mx_cV2 d_BF_find_70 c_BF_83 hLnc.1 (by decide) (Nat.le_of_ble_eq_true rfl) ?_
      refine bf_gather (by omega) hLnc (by omega) (by omega) (by omega) (by omega) hBxc hS2c hn0 hn (by omega) hlab1.1 (fun Md nl LL LU LR LD LP LM LG hfrd hLnd hgrd => ?_)
      have hbl := pu_grp_ok hgrd hb
      have hnl := hgrd.1
      exact bf_f73 (t := 1) (hOc.fr hfrd (by omega)) (hBxc.fr hfrd (by omega)) hb hn0 hn hLnd hnl.1 (by omega) hbl (by omega) ((((hPn.fr hfa (by omega)).fr hfb (by omega)).fr hfc (by omega)).fr hfrd (by omega)) np0 np8 w1 w2 h1 h2 ((((hS3.fr hfa (by omega)).fr hfb (by omega)).fr hfc (by omega)).fr hfrd (by omega)) ((((hBk.fr hfa (by omega)).fr hfb (by omega)).fr hfc (by omega)).fr hfrd (by omega)) ((((h3.fr hfa (by omega)).fr hfb (by omega)).fr hfc (by omega)).fr hfrd (by omega)) (by rw [hfrd 46 (by omega), hfc 46 (by omega), hfb 46 (by omega), hfa 46 (by omega)]; exact hPB) hgrd (fun M' LO' LX' nk' KL' KU' KR' KD' KP' KM' KZ' KG' KO' KX' BS' HB' LB' PB hf hs3 e1 e2 e3 e4 e5 e6 => k M' 1 f1 nl LL LU LR LD LP LM LG LO' LX' nk' KL' KU' KR' KD' KP' KM' KZ' KG' KO' KX' BS' HB' LB' PB (fun j hj => by rw [hf j (by omega), hfrd j (by omega), hfc j (by omega), hfb j (by omega), hfa j (by omega)]) ((hOc.fr hfrd (by omega)).of (hf 2 (by omega))) ⟨_, _, _, (hS1c.fr hfrd (by omega)).of (hf 13 (by omega)) (hf 14 (by omega))⟩ ⟨_, _, _, (hS2c.fr hfrd (by omega)).of (hf 15 (by omega)) (hf 16 (by omega))⟩ hs3 ⟨f0, f1, hlab0, hlab1, Or.inl ⟨by omega, rfl, rfl⟩⟩ e1 e2 e3 e4 e5 e6)
end
section
/-! the class: constructors -/
theorem bf_R.cg {M M' : mv_M} {o : Nat} {n : Nat} {cnt : Int} {L U R D : Int → Int} (h : bf_R M o n cnt L U R D) (e : ∀ j, o ≤ j → j < o + 5 → M'.2 j = M.2 j) : bf_R M' o n cnt L U R D := by
  unfold bf_R
  rw [e o (by omega) (by omega), e (o + 1) (by omega) (by omega), e (o + 2) (by omega) (by omega), e (o + 3) (by omega) (by omega), e (o + 4) (by omega) (by omega)]
  exact h
theorem bf_S.cg {M M' : mv_M} {o : Nat} {m c : Int} {f : Int → Int} (h : bf_S M o m c f) (e : ∀ j, o ≤ j → j < o + 2 → M'.2 j = M.2 j) : bf_S M' o m c f := by
  unfold bf_S
  rw [e o (by omega) (by omega), e (o + 1) (by omega) (by omega)]
  exact h
theorem bf_G.cg {M M' : mv_M} {o : Nat} {cnt : Int} {L U R D P LP Z GO OR PL : Int → Int} (h : bf_G M o cnt L U R D P LP Z GO OR PL) (e : ∀ j, o ≤ j → j < o + 12 → M'.2 j = M.2 j) : bf_G M' o cnt L U R D P LP Z GO OR PL := by
  refine ⟨?_, h.2.1.cg (fun j a b => e j (by omega) (by omega)), ?_, ?_, ?_, ?_, ?_, ?_⟩
  · rw [e o (by omega) (by omega)]; exact h.1
  · rw [e (o + 6) (by omega) (by omega)]; exact h.2.2.1
  · rw [e (o + 7) (by omega) (by omega)]; exact h.2.2.2.1
  · rw [e (o + 8) (by omega) (by omega)]; exact h.2.2.2.2.1
  · rw [e (o + 9) (by omega) (by omega)]; exact h.2.2.2.2.2.1
  · rw [e (o + 10) (by omega) (by omega)]; exact h.2.2.2.2.2.2.1
  · rw [e (o + 11) (by omega) (by omega)]; exact h.2.2.2.2.2.2.2
theorem bf_Rinit {Q : List mv_V → mv_M → Prop} {M : mv_M} {o n : Nat} (ho : 2 ≤ o) (hn : n ≤ 64) (hM : M.1 = o + 1) (h0 : M.2 o = .inr (ki_R, mv_l [.inr 0, .inr 0, .inr 0, .inr 0, .inl 0])) (k : ∀ M', M'.1 = o + 5 → (∀ j, j < o → M'.2 j = M.2 j) → bf_R M' o n 0 (fun _ => 0) (fun _ => 0) (fun _ => 0) (fun _ => 0) → Q [] M') : mv_J md_R_init [.inr o, .inl n] M Q := by
  refine mv_enter (by decide +kernel) (Nat.le_of_ble_eq_true rfl) ?_
  show mv_W md_R_init 0 [.inr o, .inl n, .inr 0] [] M (0, 0) Q
  refine mx_aload_n d_R_init_0 rfl (by omega) ?_
  refine mx_obj d_R_init_1 c_R_3 (by omega) (by decide) (Nat.le_of_ble_eq_true rfl) ?_
  refine mx_aload_n d_R_init_4 rfl (by omega) ?_
  refine mx_iconst (0) d_R_init_5 (by decide +kernel) (by unfold mv_r; omega) ?_
  refine mx_pl d_R_init_6 g_R_9 h0 (mv_Vi _) (Nat.le_of_ble_eq_true rfl) ?_
  refine mx_iconst (0) d_R_init_9 (by decide +kernel) (by unfold mv_r; omega) ?_
  refine mx_iload_n d_R_init_10 rfl ?_
  refine mx_max d_R_init_11 c_R_15 (by decide) (Nat.le_of_ble_eq_true rfl) ?_
  rw [show max (0 : Int) (n : Int) = n by omega]
  refine mx_istore_n d_R_init_14 (by decide) ?_
  refine mx_aload_n d_R_init_15 rfl (by omega) ?_
  refine mx_iload_n d_R_init_16 rfl ?_
  refine mx_na d_R_init_17 w_int (n := o + 1) (N := n) hM (by omega) (by omega) rfl (Nat.le_of_ble_eq_true rfl) (by show 0 + n ≤ 256; omega) ?_
  refine mx_plF d_R_init_19 rfl g_R_21 (by rw [mv_an (by omega), mv_ps]) (mv_Va _ _) (Nat.le_of_ble_eq_true rfl) ?_
  refine mx_aload_n d_R_init_22 rfl (by omega) ?_
  refine mx_iload_n d_R_init_23 rfl ?_
  refine mx_na d_R_init_24 w_int (n := o + 2) (N := n) rfl (by omega) (by omega) rfl (Nat.le_of_ble_eq_true rfl) (by show 0 + n + n ≤ 256; omega) ?_
  refine mx_plF d_R_init_26 rfl g_R_25 (by rw [mv_an (by omega), mv_ps]) (mv_Va _ _) (Nat.le_of_ble_eq_true rfl) ?_
  refine mx_aload_n d_R_init_29 rfl (by omega) ?_
  refine mx_iload_n d_R_init_30 rfl ?_
  refine mx_na d_R_init_31 w_int (n := o + 3) (N := n) rfl (by omega) (by omega) rfl (Nat.le_of_ble_eq_true rfl) (by show 0 + n + n + n ≤ 256; omega) ?_
  refine mx_plF d_R_init_33 rfl g_R_28 (by rw [mv_an (by omega), mv_ps]) (mv_Va _ _) (Nat.le_of_ble_eq_true rfl) ?_
  refine mx_aload_n d_R_init_36 rfl (by omega) ?_
  refine mx_iload_n d_R_init_37 rfl ?_
  refine mx_na d_R_init_38 w_int (n := o + 4) (N := n) rfl (by omega) (by omega) rfl (Nat.le_of_ble_eq_true rfl) (by show 0 + n + n + n + n ≤ 256; omega) ?_
  refine mx_plF d_R_init_40 rfl g_R_31 (by rw [mv_an (by omega), mv_ps]) (mv_Va _ _) (Nat.le_of_ble_eq_true rfl) ?_
  refine mx_return d_R_init_43 rfl ?_
  exact k _ rfl (fun j hj => by rw [mv_pn (by omega), mv_an (by omega), mv_pn (by omega), mv_an (by omega), mv_pn (by omega), mv_an (by omega), mv_pn (by omega), mv_an (by omega), mv_pn (by omega)]) ⟨mv_ps, by rw [mv_pn (by omega), mv_an (by omega), mv_pn (by omega), mv_an (by omega), mv_pn (by omega), mv_an (by omega), mv_pn (by omega), mv_as], by rw [mv_pn (by omega), mv_an (by omega), mv_pn (by omega), mv_an (by omega), mv_pn (by omega), mv_as], by rw [mv_pn (by omega), mv_an (by omega), mv_pn (by omega), mv_as], by rw [mv_pn (by omega), mv_as]⟩
theorem bf_Sinit {Q : List mv_V → mv_M → Prop} {M : mv_M} {o : Nat} (ho : 2 ≤ o) (hM : M.1 = o + 1) (h0 : M.2 o = .inr (ki_S, mv_l [.inr 0, .inl 0, .inl 0])) (k : ∀ M', M'.1 = o + 2 → (∀ j, j < o → M'.2 j = M.2 j) → bf_S M' o 0 0 (fun _ => 0) → Q [] M') : mv_J md_S_init [.inr o] M Q := by
  refine mv_enter (by decide +kernel) (Nat.le_of_ble_eq_true rfl) ?_
  show mv_W md_S_init 0 [.inr o] [] M (0, 0) Q
  refine mx_aload_n d_S_init_0 rfl (by omega) ?_
  refine mx_obj d_S_init_1 c_S_3 (by omega) (by decide) (Nat.le_of_ble_eq_true rfl) ?_
  refine mx_aload_n d_S_init_4 rfl (by omega) ?_
  refine mx_bipush (64) d_S_init_5 (by decide +kernel) (by unfold mv_r; omega) ?_
  refine mx_na d_S_init_7 w_int (n := o + 1) (N := 64) hM (by omega) (by omega) rfl (by decide) (by decide) ?_
  refine mx_plF d_S_init_9 rfl g_S_9 (by rw [mv_an (by omega)]; exact h0) (mv_Va _ _) (Nat.le_of_ble_eq_true rfl) ?_
  refine mx_aload_n d_S_init_12 rfl (by omega) ?_
  refine mx_iconst (0) d_S_init_13 (by decide +kernel) (by unfold mv_r; omega) ?_
  refine mx_pl d_S_init_14 g_S_15 (by rw [mv_ps]) (mv_Vi _) (Nat.le_of_ble_eq_true rfl) ?_
  refine mx_aload_n d_S_init_17 rfl (by omega) ?_
  refine mx_iconst (0) d_S_init_18 (by decide +kernel) (by unfold mv_r; omega) ?_
  refine mx_pl d_S_init_19 g_S_19 (by rw [mv_ps]) (mv_Vi _) (Nat.le_of_ble_eq_true rfl) ?_
  refine mx_return d_S_init_22 rfl ?_
  exact k _ rfl (fun j hj => by rw [mv_pn (by omega), mv_pn (by omega), mv_pn (by omega), mv_an (by omega)]) ⟨mv_ps, by rw [mv_pn (by omega), mv_pn (by omega), mv_pn (by omega), mv_as]⟩
theorem bf_Ginit {Q : List mv_V → mv_M → Prop} {M : mv_M} {o : Nat} (ho : 2 ≤ o) (hM : M.1 = o + 1) (h0 : M.2 o = .inr (ki_G, mv_l [.inr 0, .inr 0, .inr 0, .inr 0, .inr 0, .inr 0, .inr 0])) (k : ∀ M', M'.1 = o + 12 → (∀ j, j < o → M'.2 j = M.2 j) → bf_G M' o 0 (fun _ => 0) (fun _ => 0) (fun _ => 0) (fun _ => 0) (fun _ => 0) (fun _ => 0) (fun _ => 0) (fun _ => 0) (fun _ => 0) (fun _ => 0) → Q [] M') : mv_J md_G_init [.inr o] M Q := by
  refine mv_enter (by decide +kernel) (Nat.le_of_ble_eq_true rfl) ?_
  show mv_W md_G_init 0 [.inr o] [] M (0, 0) Q
  refine mx_aload_n d_G_init_0 rfl (by omega) ?_
  refine mx_obj d_G_init_1 c_G_3 (by omega) (by decide) (Nat.le_of_ble_eq_true rfl) ?_
  refine mx_aload_n d_G_init_4 rfl (by omega) ?_
  refine mx_nw d_G_init_5 w_G_9 (n := o + 1) hM (by decide) (by decide) ?_
  refine mx_dup d_G_init_8 ?_
  refine mx_bipush (64) d_G_init_9 (by decide +kernel) (by unfold mv_r; omega) ?_
  refine mx_cI1 d_G_init_11 c_G_11 (by decide +kernel) (by decide) (by decide) (by omega) (Nat.le_of_ble_eq_true rfl) ?_
  refine bf_Rinit (n := 64) (by omega) (by omega) rfl mv_as (fun M1 hM1 hf1 hR1 => ?_)
  have h1 : M1.2 o = .inr (ki_G, mv_l [.inr 0, .inr 0, .inr 0, .inr 0, .inr 0, .inr 0, .inr 0]) := by rw [hf1 o (by omega), mv_an (by omega)]; exact h0
  refine mx_plF d_G_init_14 rfl g_G_14 h1 (mv_Vo _ _) (Nat.le_of_ble_eq_true rfl) ?_
  refine mx_aload_n d_G_init_17 rfl (by omega) ?_
  refine mx_bipush (64) d_G_init_18 (by decide +kernel) (by unfold mv_r; omega) ?_
  refine mx_na d_G_init_20 w_int (n := o + 6) (N := 64) hM1 (by omega) (by omega) rfl (by decide) (by decide) ?_
  refine mx_plF d_G_init_22 rfl g_G_20 (by rw [mv_an (by omega), mv_ps]) (mv_Va _ _) (Nat.le_of_ble_eq_true rfl) ?_
  refine mx_aload_n d_G_init_25 rfl (by omega) ?_
  refine mx_bipush (64) d_G_init_26 (by decide +kernel) (by unfold mv_r; omega) ?_
  refine mx_na d_G_init_28 w_int (n := o + 7) (N := 64) rfl (by omega) (by omega) rfl (by decide) (by decide) ?_
  refine mx_plF d_G_init_30 rfl g_G_24 (by rw [mv_an (by omega), mv_ps]) (mv_Va _ _) (Nat.le_of_ble_eq_true rfl) ?_
  refine mx_aload_n d_G_init_33 rfl (by omega) ?_
  refine mx_bipush (64) d_G_init_34 (by decide +kernel) (by unfold mv_r; omega) ?_
  refine mx_na d_G_init_36 w_int (n := o + 8) (N := 64) rfl (by omega) (by omega) rfl (by decide) (by decide) ?_
  refine mx_plF d_G_init_38 rfl g_G_27 (by rw [mv_an (by omega), mv_ps]) (mv_Va _ _) (Nat.le_of_ble_eq_true rfl) ?_
  refine mx_aload_n d_G_init_41 rfl (by omega) ?_
  refine mx_bipush (64) d_G_init_42 (by decide +kernel) (by unfold mv_r; omega) ?_
  refine mx_na d_G_init_44 w_int (n := o + 9) (N := 64) rfl (by omega) (by omega) rfl (by decide) (by decide) ?_
  refine mx_plF d_G_init_46 rfl g_G_30 (by rw [mv_an (by omega), mv_ps]) (mv_Va _ _) (Nat.le_of_ble_eq_true rfl) ?_
  refine mx_aload_n d_G_init_49 rfl (by omega) ?_
  refine mx_bipush (64) d_G_init_50 (by decide +kernel) (by unfold mv_r; omega) ?_
  refine mx_na d_G_init_52 w_int (n := o + 10) (N := 64) rfl (by omega) (by omega) rfl (by decide) (by decide) ?_
  refine mx_plF d_G_init_54 rfl g_G_33 (by rw [mv_an (by omega), mv_ps]) (mv_Va _ _) (Nat.le_of_ble_eq_true rfl) ?_
  refine mx_aload_n d_G_init_57 rfl (by omega) ?_
  refine mx_bipush (64) d_G_init_58 (by decide +kernel) (by unfold mv_r; omega) ?_
  refine mx_na d_G_init_60 w_int (n := o + 11) (N := 64) rfl (by omega) (by omega) rfl (by decide) (by decide) ?_
  refine mx_plF d_G_init_62 rfl g_G_36 (by rw [mv_an (by omega), mv_ps]) (mv_Va _ _) (Nat.le_of_ble_eq_true rfl) ?_
  refine mx_return d_G_init_65 rfl ?_
  exact k _ rfl (fun j hj => by rw [mv_pn (by omega), mv_an (by omega), mv_pn (by omega), mv_an (by omega), mv_pn (by omega), mv_an (by omega), mv_pn (by omega), mv_an (by omega), mv_pn (by omega), mv_an (by omega), mv_pn (by omega), mv_an (by omega), mv_pn (by omega), hf1 j (by omega), mv_an (by omega)]) ⟨mv_ps, hR1.cg (fun j a b => by rw [mv_pn (by omega), mv_an (by omega), mv_pn (by omega), mv_an (by omega), mv_pn (by omega), mv_an (by omega), mv_pn (by omega), mv_an (by omega), mv_pn (by omega), mv_an (by omega), mv_pn (by omega), mv_an (by omega), mv_pn (by omega)]), by rw [mv_pn (by omega), mv_an (by omega), mv_pn (by omega), mv_an (by omega), mv_pn (by omega), mv_an (by omega), mv_pn (by omega), mv_an (by omega), mv_pn (by omega), mv_an (by omega), mv_pn (by omega), mv_as], by rw [mv_pn (by omega), mv_an (by omega), mv_pn (by omega), mv_an (by omega), mv_pn (by omega), mv_an (by omega), mv_pn (by omega), mv_an (by omega), mv_pn (by omega), mv_as], by rw [mv_pn (by omega), mv_an (by omega), mv_pn (by omega), mv_an (by omega), mv_pn (by omega), mv_an (by omega), mv_pn (by omega), mv_as], by rw [mv_pn (by omega), mv_an (by omega), mv_pn (by omega), mv_an (by omega), mv_pn (by omega), mv_as], by rw [mv_pn (by omega), mv_an (by omega), mv_pn (by omega), mv_as], by rw [mv_pn (by omega), mv_as]⟩
theorem bf_init {Q : List mv_V → mv_M → Prop} {M : mv_M} {x y : Int} (hM : M.1 = 3) (h0 : M.2 2 = .inr (ki_BF, mv_l [.inl 0, .inl 0, .inr 0, .inr 0, .inr 0, .inr 0, .inr 0, .inr 0, .inr 0, .inr 0, .inr 0, .inr 0, .inr 0, .inl 0])) (k : ∀ M', M'.1 = 47 → (∀ j, j < 2 → M'.2 j = M.2 j) → bf_O M' (max 1 (min 4096 x)) (max 1 (min 4096 y)) 0 → bf_R M' 3 64 0 (fun _ => 0) (fun _ => 0) (fun _ => 0) (fun _ => 0) → bf_R M' 8 8 0 (fun _ => 0) (fun _ => 0) (fun _ => 0) (fun _ => 0) → bf_S M' 13 0 0 (fun _ => 0) → bf_S M' 15 0 0 (fun _ => 0) → bf_S M' 17 0 0 (fun _ => 0) → bf_G M' 19 0 (fun _ => 0) (fun _ => 0) (fun _ => 0) (fun _ => 0) (fun _ => 0) (fun _ => 0) (fun _ => 0) (fun _ => 0) (fun _ => 0) (fun _ => 0) → bf_G M' 31 0 (fun _ => 0) (fun _ => 0) (fun _ => 0) (fun _ => 0) (fun _ => 0) (fun _ => 0) (fun _ => 0) (fun _ => 0) (fun _ => 0) (fun _ => 0) → bf_3 M' (fun _ => 0) (fun _ => 0) (fun _ => 0) → M'.2 46 = .inl (64, (fun _ => 0)) → Q [] M') : mv_J md_BF_init [.inr 2, .inl x, .inl y] M Q := by
  refine mv_enter (by decide +kernel) (Nat.le_of_ble_eq_true rfl) ?_
  show mv_W md_BF_init 0 [.inr 2, .inl x, .inl y] [] M (0, 0) Q
  refine mx_aload_n d_BF_init_0 rfl (by omega) ?_
  refine mx_obj d_BF_init_1 c_BF_1 (by omega) (by decide) (Nat.le_of_ble_eq_true rfl) ?_
  refine mx_aload_n d_BF_init_4 rfl (by omega) ?_
  refine mx_nw d_BF_init_5 w_BF_7 (n := 3) hM (by decide) (by decide) ?_
  refine mx_dup d_BF_init_8 ?_
  refine mx_bipush (64) d_BF_init_9 (by decide +kernel) (by unfold mv_r; omega) ?_
  refine mx_cI1 d_BF_init_11 c_BF_11 (by decide +kernel) (by decide) (by decide) (by omega) (Nat.le_of_ble_eq_true rfl) ?_
  refine bf_Rinit (n := 64) (by omega) (by omega) rfl mv_as (fun M0 hM0 hf0 hBx => ?_)
  have hb0 : M0.2 2 = .inr (ki_BF, mv_l [.inl 0, .inl 0, .inr 0, .inr 0, .inr 0, .inr 0, .inr 0, .inr 0, .inr 0, .inr 0, .inr 0, .inr 0, .inr 0, .inl 0]) := by rw [hf0 2 (by omega), mv_an (by omega)]; exact h0
  have hlo0 : ∀ j, j < 2 → M0.2 j = M.2 j := fun j hj => by rw [hf0 j (by omega), mv_an (by omega)]
  refine mx_plF d_BF_init_14 rfl g_BF_14 hb0 (mv_Vo _ _) (Nat.le_of_ble_eq_true rfl) ?_
  refine mx_aload_n d_BF_init_17 rfl (by omega) ?_
  refine mx_nw d_BF_init_18 w_BF_7 (n := 8) hM0 (by decide) (by decide) ?_
  refine mx_dup d_BF_init_21 ?_
  refine mx_bipush (8) d_BF_init_22 (by decide +kernel) (by unfold mv_r; omega) ?_
  refine mx_cI1 d_BF_init_24 c_BF_11 (by decide +kernel) (by decide) (by decide) (by omega) (Nat.le_of_ble_eq_true rfl) ?_
  refine bf_Rinit (n := 8) (by omega) (by omega) rfl mv_as (fun M1 hM1 hf1 hPn => ?_)
  have hb1 : M1.2 2 = .inr (ki_BF, mv_l [.inl 0, .inl 0, .inr 3, .inr 0, .inr 0, .inr 0, .inr 0, .inr 0, .inr 0, .inr 0, .inr 0, .inr 0, .inr 0, .inl 0]) := by rw [hf1 2 (by omega), mv_an (by omega)]; exact mv_ps
  have hlo1 : ∀ j, j < 2 → M1.2 j = M.2 j := fun j hj => by rw [hf1 j (by omega), mv_an (by omega), mv_pn (by omega), hlo0 j hj]
  have he1 : ∀ j, 3 ≤ j → j < 8 → M1.2 j = M0.2 j := fun j a b => by rw [hf1 j (by omega), mv_an (by omega), mv_pn (by omega)]
  replace hBx := hBx.cg (M' := M1) (fun j a b => he1 j (by omega) (by omega))
  refine mx_plF d_BF_init_27 rfl g_BF_18 hb1 (mv_Vo _ _) (Nat.le_of_ble_eq_true rfl) ?_
  refine mx_aload_n d_BF_init_30 rfl (by omega) ?_
  refine mx_nw d_BF_init_31 w_BF_21 (n := 13) hM1 (by decide) (by decide) ?_
  refine mx_dup d_BF_init_34 ?_
  refine mx_cN0 d_BF_init_35 c_BF_23 (by decide +kernel) (by decide) (by decide) (by omega) (Nat.le_of_ble_eq_true rfl) ?_
  refine bf_Sinit (by omega) rfl mv_as (fun M2 hM2 hf2 hS1 => ?_)
  have hb2 : M2.2 2 = .inr (ki_BF, mv_l [.inl 0, .inl 0, .inr 3, .inr 8, .inr 0, .inr 0, .inr 0, .inr 0, .inr 0, .inr 0, .inr 0, .inr 0, .inr 0, .inl 0]) := by rw [hf2 2 (by omega), mv_an (by omega)]; exact mv_ps
  have hlo2 : ∀ j, j < 2 → M2.2 j = M.2 j := fun j hj => by rw [hf2 j (by omega), mv_an (by omega), mv_pn (by omega), hlo1 j hj]
  have he2 : ∀ j, 3 ≤ j → j < 13 → M2.2 j = M1.2 j := fun j a b => by rw [hf2 j (by omega), mv_an (by omega), mv_pn (by omega)]
  replace hBx := hBx.cg (M' := M2) (fun j a b => he2 j (by omega) (by omega))
  replace hPn := hPn.cg (M' := M2) (fun j a b => he2 j (by omega) (by omega))
  refine mx_plF d_BF_init_38 rfl g_BF_24 hb2 (mv_Vo _ _) (Nat.le_of_ble_eq_true rfl) ?_
  refine mx_aload_n d_BF_init_41 rfl (by omega) ?_
  refine mx_nw d_BF_init_42 w_BF_21 (n := 15) hM2 (by decide) (by decide) ?_
  refine mx_dup d_BF_init_45 ?_
  refine mx_cN0 d_BF_init_46 c_BF_23 (by decide +kernel) (by decide) (by decide) (by omega) (Nat.le_of_ble_eq_true rfl) ?_
  refine bf_Sinit (by omega) rfl mv_as (fun M3 hM3 hf3 hS2 => ?_)
  have hb3 : M3.2 2 = .inr (ki_BF, mv_l [.inl 0, .inl 0, .inr 3, .inr 8, .inr 13, .inr 0, .inr 0, .inr 0, .inr 0, .inr 0, .inr 0, .inr 0, .inr 0, .inl 0]) := by rw [hf3 2 (by omega), mv_an (by omega)]; exact mv_ps
  have hlo3 : ∀ j, j < 2 → M3.2 j = M.2 j := fun j hj => by rw [hf3 j (by omega), mv_an (by omega), mv_pn (by omega), hlo2 j hj]
  have he3 : ∀ j, 3 ≤ j → j < 15 → M3.2 j = M2.2 j := fun j a b => by rw [hf3 j (by omega), mv_an (by omega), mv_pn (by omega)]
  replace hBx := hBx.cg (M' := M3) (fun j a b => he3 j (by omega) (by omega))
  replace hPn := hPn.cg (M' := M3) (fun j a b => he3 j (by omega) (by omega))
  replace hS1 := hS1.cg (M' := M3) (fun j a b => he3 j (by omega) (by omega))
  refine mx_plF d_BF_init_49 rfl g_BF_28 hb3 (mv_Vo _ _) (Nat.le_of_ble_eq_true rfl) ?_
  refine mx_aload_n d_BF_init_52 rfl (by omega) ?_
  refine mx_nw d_BF_init_53 w_BF_21 (n := 17) hM3 (by decide) (by decide) ?_
  refine mx_dup d_BF_init_56 ?_
  refine mx_cN0 d_BF_init_57 c_BF_23 (by decide +kernel) (by decide) (by decide) (by omega) (Nat.le_of_ble_eq_true rfl) ?_
  refine bf_Sinit (by omega) rfl mv_as (fun M4 hM4 hf4 hS3 => ?_)
  have hb4 : M4.2 2 = .inr (ki_BF, mv_l [.inl 0, .inl 0, .inr 3, .inr 8, .inr 13, .inr 15, .inr 0, .inr 0, .inr 0, .inr 0, .inr 0, .inr 0, .inr 0, .inl 0]) := by rw [hf4 2 (by omega), mv_an (by omega)]; exact mv_ps
  have hlo4 : ∀ j, j < 2 → M4.2 j = M.2 j := fun j hj => by rw [hf4 j (by omega), mv_an (by omega), mv_pn (by omega), hlo3 j hj]
  have he4 : ∀ j, 3 ≤ j → j < 17 → M4.2 j = M3.2 j := fun j a b => by rw [hf4 j (by omega), mv_an (by omega), mv_pn (by omega)]
  replace hBx := hBx.cg (M' := M4) (fun j a b => he4 j (by omega) (by omega))
  replace hPn := hPn.cg (M' := M4) (fun j a b => he4 j (by omega) (by omega))
  replace hS1 := hS1.cg (M' := M4) (fun j a b => he4 j (by omega) (by omega))
  replace hS2 := hS2.cg (M' := M4) (fun j a b => he4 j (by omega) (by omega))
  refine mx_plF d_BF_init_60 rfl g_BF_31 hb4 (mv_Vo _ _) (Nat.le_of_ble_eq_true rfl) ?_
  refine mx_aload_n d_BF_init_63 rfl (by omega) ?_
  refine mx_nw d_BF_init_64 w_BF_34 (n := 19) hM4 (by decide) (by decide) ?_
  refine mx_dup d_BF_init_67 ?_
  refine mx_cN0 d_BF_init_68 c_BF_36 (by decide +kernel) (by decide) (by decide) (by omega) (Nat.le_of_ble_eq_true rfl) ?_
  refine bf_Ginit (by omega) rfl mv_as (fun M5 hM5 hf5 hLn => ?_)
  have hb5 : M5.2 2 = .inr (ki_BF, mv_l [.inl 0, .inl 0, .inr 3, .inr 8, .inr 13, .inr 15, .inr 17, .inr 0, .inr 0, .inr 0, .inr 0, .inr 0, .inr 0, .inl 0]) := by rw [hf5 2 (by omega), mv_an (by omega)]; exact mv_ps
  have hlo5 : ∀ j, j < 2 → M5.2 j = M.2 j := fun j hj => by rw [hf5 j (by omega), mv_an (by omega), mv_pn (by omega), hlo4 j hj]
  have he5 : ∀ j, 3 ≤ j → j < 19 → M5.2 j = M4.2 j := fun j a b => by rw [hf5 j (by omega), mv_an (by omega), mv_pn (by omega)]
  replace hBx := hBx.cg (M' := M5) (fun j a b => he5 j (by omega) (by omega))
  replace hPn := hPn.cg (M' := M5) (fun j a b => he5 j (by omega) (by omega))
  replace hS1 := hS1.cg (M' := M5) (fun j a b => he5 j (by omega) (by omega))
  replace hS2 := hS2.cg (M' := M5) (fun j a b => he5 j (by omega) (by omega))
  replace hS3 := hS3.cg (M' := M5) (fun j a b => he5 j (by omega) (by omega))
  refine mx_plF d_BF_init_71 rfl g_BF_37 hb5 (mv_Vo _ _) (Nat.le_of_ble_eq_true rfl) ?_
  refine mx_aload_n d_BF_init_74 rfl (by omega) ?_
  refine mx_nw d_BF_init_75 w_BF_34 (n := 31) hM5 (by decide) (by decide) ?_
  refine mx_dup d_BF_init_78 ?_
  refine mx_cN0 d_BF_init_79 c_BF_36 (by decide +kernel) (by decide) (by decide) (by omega) (Nat.le_of_ble_eq_true rfl) ?_
  refine bf_Ginit (by omega) rfl mv_as (fun M6 hM6 hf6 hBk => ?_)
  have hb6 : M6.2 2 = .inr (ki_BF, mv_l [.inl 0, .inl 0, .inr 3, .inr 8, .inr 13, .inr 15, .inr 17, .inr 19, .inr 0, .inr 0, .inr 0, .inr 0, .inr 0, .inl 0]) := by rw [hf6 2 (by omega), mv_an (by omega)]; exact mv_ps
  have hlo6 : ∀ j, j < 2 → M6.2 j = M.2 j := fun j hj => by rw [hf6 j (by omega), mv_an (by omega), mv_pn (by omega), hlo5 j hj]
  have he6 : ∀ j, 3 ≤ j → j < 31 → M6.2 j = M5.2 j := fun j a b => by rw [hf6 j (by omega), mv_an (by omega), mv_pn (by omega)]
  replace hBx := hBx.cg (M' := M6) (fun j a b => he6 j (by omega) (by omega))
  replace hPn := hPn.cg (M' := M6) (fun j a b => he6 j (by omega) (by omega))
  replace hS1 := hS1.cg (M' := M6) (fun j a b => he6 j (by omega) (by omega))
  replace hS2 := hS2.cg (M' := M6) (fun j a b => he6 j (by omega) (by omega))
  replace hS3 := hS3.cg (M' := M6) (fun j a b => he6 j (by omega) (by omega))
  replace hLn := hLn.cg (M' := M6) (fun j a b => he6 j (by omega) (by omega))
  refine mx_plF d_BF_init_82 rfl g_BF_41 hb6 (mv_Vo _ _) (Nat.le_of_ble_eq_true rfl) ?_
  refine mx_aload_n d_BF_init_85 rfl (by omega) ?_
  refine mx_bipush (64) d_BF_init_86 (by decide +kernel) (by unfold mv_r; omega) ?_
  refine mx_na d_BF_init_88 w_int (n := 43) (N := 64) hM6 (by omega) (by omega) rfl (by decide) (by decide) ?_
  refine mx_plF d_BF_init_90 rfl g_BF_44 (by rw [mv_an (by omega), mv_ps]) (mv_Va _ _) (Nat.le_of_ble_eq_true rfl) ?_
  refine mx_aload_n d_BF_init_93 rfl (by omega) ?_
  refine mx_bipush (64) d_BF_init_94 (by decide +kernel) (by unfold mv_r; omega) ?_
  refine mx_na d_BF_init_96 w_int (n := 44) (N := 64) rfl (by omega) (by omega) rfl (by decide) (by decide) ?_
  refine mx_plF d_BF_init_98 rfl g_BF_48 (by rw [mv_an (by omega), mv_ps]) (mv_Va _ _) (Nat.le_of_ble_eq_true rfl) ?_
  refine mx_aload_n d_BF_init_101 rfl (by omega) ?_
  refine mx_bipush (64) d_BF_init_102 (by decide +kernel) (by unfold mv_r; omega) ?_
  refine mx_na d_BF_init_104 w_int (n := 45) (N := 64) rfl (by omega) (by omega) rfl (by decide) (by decide) ?_
  refine mx_plF d_BF_init_106 rfl g_BF_51 (by rw [mv_an (by omega), mv_ps]) (mv_Va _ _) (Nat.le_of_ble_eq_true rfl) ?_
  refine mx_aload_n d_BF_init_109 rfl (by omega) ?_
  refine mx_bipush (64) d_BF_init_110 (by decide +kernel) (by unfold mv_r; omega) ?_
  refine mx_na d_BF_init_112 w_int (n := 46) (N := 64) rfl (by omega) (by omega) rfl (by decide) (by decide) ?_
  refine mx_plF d_BF_init_114 rfl g_BF_54 (by rw [mv_an (by omega), mv_ps]) (mv_Va _ _) (Nat.le_of_ble_eq_true rfl) ?_
  refine mx_aload_n d_BF_init_117 rfl (by omega) ?_
  refine mx_iconst (0) d_BF_init_118 (by decide +kernel) (by unfold mv_r; omega) ?_
  refine mx_pl d_BF_init_119 g_BF_57 (by rw [mv_ps]) (mv_Vz (by omega)) (Nat.le_of_ble_eq_true rfl) ?_
  refine mx_aload_n d_BF_init_122 rfl (by omega) ?_
  refine mx_iload_n d_BF_init_123 rfl ?_
  refine mx_cS1 d_BF_init_124 c_BF_61 (by decide) (Nat.le_of_ble_eq_true rfl) ?_
  refine bf_nearestSide ?_
  refine mx_plF d_BF_init_127 rfl g_BF_65 (by rw [mv_ps]) (mv_Vi _) (Nat.le_of_ble_eq_true rfl) ?_
  refine mx_aload_n d_BF_init_130 rfl (by omega) ?_
  refine mx_iload_n d_BF_init_131 rfl ?_
  refine mx_cS1 d_BF_init_132 c_BF_61 (by decide) (Nat.le_of_ble_eq_true rfl) ?_
  refine bf_nearestSide ?_
  refine mx_plF d_BF_init_135 rfl g_BF_69 (by rw [mv_ps]) (mv_Vi _) (Nat.le_of_ble_eq_true rfl) ?_
  refine mx_return d_BF_init_138 rfl ?_
  exact k _ rfl (fun j hj => by rw [mv_pn (by omega), mv_pn (by omega), mv_pn (by omega), mv_pn (by omega), mv_an (by omega), mv_pn (by omega), mv_an (by omega), mv_pn (by omega), mv_an (by omega), mv_pn (by omega), mv_an (by omega), mv_pn (by omega), hlo6 j hj]) mv_ps (hBx.cg (fun j a b => by rw [mv_pn (by omega), mv_pn (by omega), mv_pn (by omega), mv_pn (by omega), mv_an (by omega), mv_pn (by omega), mv_an (by omega), mv_pn (by omega), mv_an (by omega), mv_pn (by omega), mv_an (by omega), mv_pn (by omega)])) (hPn.cg (fun j a b => by rw [mv_pn (by omega), mv_pn (by omega), mv_pn (by omega), mv_pn (by omega), mv_an (by omega), mv_pn (by omega), mv_an (by omega), mv_pn (by omega), mv_an (by omega), mv_pn (by omega), mv_an (by omega), mv_pn (by omega)])) (hS1.cg (fun j a b => by rw [mv_pn (by omega), mv_pn (by omega), mv_pn (by omega), mv_pn (by omega), mv_an (by omega), mv_pn (by omega), mv_an (by omega), mv_pn (by omega), mv_an (by omega), mv_pn (by omega), mv_an (by omega), mv_pn (by omega)])) (hS2.cg (fun j a b => by rw [mv_pn (by omega), mv_pn (by omega), mv_pn (by omega), mv_pn (by omega), mv_an (by omega), mv_pn (by omega), mv_an (by omega), mv_pn (by omega), mv_an (by omega), mv_pn (by omega), mv_an (by omega), mv_pn (by omega)])) (hS3.cg (fun j a b => by rw [mv_pn (by omega), mv_pn (by omega), mv_pn (by omega), mv_pn (by omega), mv_an (by omega), mv_pn (by omega), mv_an (by omega), mv_pn (by omega), mv_an (by omega), mv_pn (by omega), mv_an (by omega), mv_pn (by omega)])) (hLn.cg (fun j a b => by rw [mv_pn (by omega), mv_pn (by omega), mv_pn (by omega), mv_pn (by omega), mv_an (by omega), mv_pn (by omega), mv_an (by omega), mv_pn (by omega), mv_an (by omega), mv_pn (by omega), mv_an (by omega), mv_pn (by omega)])) (hBk.cg (fun j a b => by rw [mv_pn (by omega), mv_pn (by omega), mv_pn (by omega), mv_pn (by omega), mv_an (by omega), mv_pn (by omega), mv_an (by omega), mv_pn (by omega), mv_an (by omega), mv_pn (by omega), mv_an (by omega), mv_pn (by omega)])) ⟨by rw [mv_pn (by omega), mv_pn (by omega), mv_pn (by omega), mv_pn (by omega), mv_an (by omega), mv_pn (by omega), mv_an (by omega), mv_pn (by omega), mv_an (by omega), mv_pn (by omega), mv_as], by rw [mv_pn (by omega), mv_pn (by omega), mv_pn (by omega), mv_pn (by omega), mv_an (by omega), mv_pn (by omega), mv_an (by omega), mv_pn (by omega), mv_as], by rw [mv_pn (by omega), mv_pn (by omega), mv_pn (by omega), mv_pn (by omega), mv_an (by omega), mv_pn (by omega), mv_as]⟩ (by rw [mv_pn (by omega), mv_pn (by omega), mv_pn (by omega), mv_pn (by omega), mv_as])
end
section
/-! rows for the reference: a long sum compared, xor, calls of seven -/
section MR
variable {md : mv_D} {pc : Nat} {lo st : List mv_V} {M : mv_M} {bu : Nat × Nat} {Q : List mv_V → mv_M → Prop}
theorem mx_ixor {x y : Int} (z : Int) (hd : decode md.2.1 pc = .ok (.ixor, 1)) (hz : mv_i x ^^^ mv_i y = mv_i z) (hr : mv_r z) (k : mv_W md (pc + 1) lo (.inl z :: st) M bu Q) : mv_W md pc lo (.inl y :: .inl x :: st) M bu Q := by
  intro p l e R s m args below meth c D cA A Qr G ad ls H locs S L hst hbu E
  refine lv_ixor (x := mv_i x) (y := mv_i y) G.1 G.2.1 hd ?_
  rw [hz]
  exact k p l e R s m args below meth c D cA A Qr G ad ls H locs S L (mx_cc hr (mx_c2 (mx_c2 hst))) hbu E
theorem mx_lc {x w z : Int} (hx : mv_r x) (hw : mv_r w) (hz : mv_r z) : lg_cmp ((mv_i x).toInt64 + (mv_i w).toInt64) (mv_i z).toInt64 = mv_i (if z < x + w then 1 else if x + w = z then 0 else -1) := by
  have e1 : ((mv_i x).toInt64 + (mv_i w).toInt64).toInt = x + w := by
    rw [Int64.toInt_add, Int32.toInt_toInt64, Int32.toInt_toInt64, mv_to hx, mv_to hw]
    unfold mv_r at hx hw
    exact Int.bmod_eq_of_le (by omega) (by omega)
  have e2 : (mv_i z).toInt64.toInt = z := by rw [Int32.toInt_toInt64, mv_to hz]
  unfold lg_cmp
  simp only [gt_iff_lt, Int64.lt_iff_toInt_lt, ← Int64.toInt_inj, e1, e2]
  by_cases h1 : z < x + w
  · rw [if_pos h1, if_pos h1]; decide +kernel
  · rw [if_neg h1, if_neg h1]
    by_cases h2 : x + w = z
    · rw [if_pos h2, if_pos h2]; decide +kernel
    · rw [if_neg h2, if_neg h2]; decide +kernel
/-- x + w as longs, held against a field: what lcmp leaves -/
theorem mx_lsum {j1 : Fin 4} {x w z : Int} {ix ci k0 o p2 : Nat} {vs : List mv_V} (h1 : decode md.2.1 pc = .ok (.iload_n j1, 1)) (h2 : decode md.2.1 (pc + 1) = .ok (.i2l, 1)) (h3 : (∃ j2 : Fin 4, decode md.2.1 (pc + 2) = .ok (.iload_n j2, 1) ∧ lo[(j2 : Nat)]? = some (.inl w) ∧ p2 = pc + 3) ∨ (∃ j2 : Nat, decode md.2.1 (pc + 2) = .ok (.iload j2, 2) ∧ lo[j2]? = some (.inl w) ∧ p2 = pc + 4))
    (h4 : decode md.2.1 p2 = .ok (.i2l, 1)) (h5 : decode md.2.1 (p2 + 1) = .ok (.ladd, 1)) (h6 : decode md.2.1 (p2 + 2) = .ok (.aload_n 0, 1)) (h7 : decode md.2.1 (p2 + 3) = .ok (.getfield ix, 3)) (h8 : decode md.2.1 (p2 + 6) = .ok (.i2l, 1)) (h9 : decode md.2.1 (p2 + 7) = .ok (.lcmp, 1))
    (g1 : lo[(j1 : Nat)]? = some (.inl x)) (g0 : lo[0]? = some (.inr o)) (ho0 : o ≠ 0) (hf : mv_F md.1.cls ix ci k0) (ho : M.2 o = .inr (ci, mv_l vs)) (hv : vs[k0]? = some (.inl z))
    (k : mv_W md (p2 + 8) lo (.inl (if z < x + w then 1 else if x + w = z then 0 else -1) :: st) M bu Q) : mv_W md pc lo st M bu Q := by
  intro p l e R s m args below meth c D cA A Qr G ad ls H locs S L hst hbu E
  obtain ⟨hci, C, T, N, hc, hk, hu, hl⟩ := hf
  obtain ⟨i2, i3⟩ := mv_liveO S.1 S.2.2.2.2.2.1 ho (by omega)
  have he := mv_w_at (cA := cA) (ad := ad) i2 i3
  rw [ho, mv_e_o hci] at he
  have hfz : mv_l vs k0 = .inl z := mv_lg hv
  have hfs : ((List.range (mv_N ci)).map (fun k => mv_t ad (mv_l vs k)))[k0]? = some (.int (mv_i z)) := by
    rw [mv_Nof hc, List.getElem?_map, List.getElem?_range hk]
    show some (mv_t ad (mv_l vs k0)) = _
    rw [hfz]; rfl
  have hz : mv_r z := by
    have := S.1.2.1 o
    rw [ho] at this
    have h4 : mv_ok M.1 (mv_l vs k0) := this k0
    rw [hfz] at h4
    exact h4
  have hx : mv_r x := L.ok g1
  have hw : mv_r w := by
    rcases h3 with ⟨j2, -, a2, -⟩ | ⟨j2, -, a2, -⟩
    · exact L.ok a2
    · exact L.ok a2
  have hr : mv_r (if z < x + w then 1 else if x + w = z then 0 else -1) := by
    unfold mv_r
    split
    · omega
    · split <;> omega
  have hkk := k p l e R s m args below meth c D cA A Qr G ad ls H locs S L (mx_cc hr hst) hbu E
  have tail : W p l e R s m args below meth c H locs bu.1 bu.2 Qr (F0 m p2 ls (Value.int (mv_i w) :: Value.long (mv_i x).toInt64 :: st.map (mv_t ad))) := by
    refine lv_i2l G.1 G.2.1 h4 rfl ?_
    refine lv_ladd G.1 G.2.1 h5 ?_
    have hg := L.get g0 (by intro h; exact ho0 (Sum.inr.inj h))
    rw [mv_tr ho0] at hg
    refine lv_aload_n G.1 G.2.1 h6 rfl hg ?_
    refine va_get G.1 G.2.1 G.2.2.2.2.1 hu G.2.2.2.1 G.2.2.2.2.2.2.1 S.2.1 (o - 2) he hc k0 hk (G.2.2.2.2.1 _ hl) (fun _ h => h) hfs h7 ?_
    refine lv_i2l G.1 G.2.1 h8 rfl ?_
    refine W.lcmp G.1 G.2.1 h9 ?_
    rw [mx_lc hx hw hz]
    exact hkk
  refine lv_iload_n G.1 G.2.1 h1 rfl (L.get g1 (by intro h; cases h)) ?_
  refine lv_i2l G.1 G.2.1 h2 rfl ?_
  rcases h3 with ⟨j2, a1, a2, rfl⟩ | ⟨j2, a1, a2, rfl⟩
  · exact lv_iload_n G.1 G.2.1 a1 rfl (L.get a2 (by intro h; cases h)) tail
  · exact lv_iload G.1 G.2.1 a1 (L.get a2 (by intro h; cases h)) tail
theorem mx_cS7 {md' : mv_D} {a1 a2 a3 a4 a5 a6 a7 : mv_V} {ix : Nat} (hd : decode md.2.1 pc = .ok (.invokestatic ix, 3)) (hw : mv_kS md.1.cls ix 7 md') (hfit : mv_fit md md') (h8 : st.length ≤ 8) (k : mv_J md' [a1, a2, a3, a4, a5, a6, a7] M (fun r M' => mv_W md (pc + 3) lo (r ++ st) M' bu Q)) : mv_W md pc lo (a7 :: a6 :: a5 :: a4 :: a3 :: a2 :: a1 :: st) M bu Q :=
  mx_kS (as := [a1, a2, a3, a4, a5, a6, a7]) hd hw hfit h8 rfl k
end MR
end
section
/-! the reference: boxes on the sheet, their sides -/
def rf_O (M : mv_M) (co wi ta bo pa wy lc fo tu bl kl se ow : Int) : Prop := M.2 47 = .inr (ki_RM, mv_l [.inl co, .inl wi, .inl ta, .inl bo, .inr 48, .inl pa, .inr 49, .inl wy, .inr 50, .inl lc, .inr 51, .inr 52, .inr 53, .inl fo, .inl tu, .inl bl, .inr 54, .inr 55, .inr 56, .inr 57, .inr 58, .inl kl, .inr 59, .inr 60, .inr 61, .inr 62, .inl se, .inr 63, .inl ow])
def rf_l (A : Int → Int) (q : Int) : Int := A (4 * q)
def rf_u (A : Int → Int) (q : Int) : Int := A (4 * q + 1)
def rf_w (A : Int → Int) (q : Int) : Int := A (4 * q + 2)
def rf_h (A : Int → Int) (q : Int) : Int := A (4 * q + 3)
def rf_r (A : Int → Int) (q : Int) : Int := A (4 * q) + A (4 * q + 2)
def rf_d (A : Int → Int) (q : Int) : Int := A (4 * q + 1) + A (4 * q + 3)
abbrev rf_ok (cnt : Int) (A : Int → Int) : Prop := bf_ok cnt (rf_l A) (rf_u A) (rf_r A) (rf_d A)
theorem rf_or {t : Int} {A : Int → Int} {q : Int} : bf_o t (rf_l A) (rf_u A) q + bf_o t (rf_w A) (rf_h A) q = bf_o t (rf_r A) (rf_d A) q := by unfold bf_o rf_r rf_d; split <;> rfl
theorem rf_od {t : Int} {A : Int → Int} {q : Int} : bf_o t (rf_u A) (rf_l A) q + bf_o t (rf_h A) (rf_w A) q = bf_o t (rf_d A) (rf_r A) q := by unfold bf_o rf_r rf_d; split <;> rfl
theorem rf_oh {t : Int} {A : Int → Int} {q : Int} : bf_o t (rf_h A) (rf_w A) q = bf_o t (rf_d A) (rf_r A) q - bf_o t (rf_u A) (rf_l A) q := by have := rf_od (t := t) (A := A) (q := q); omega
theorem rf_ow {t : Int} {A : Int → Int} {q : Int} : bf_o t (rf_w A) (rf_h A) q = bf_o t (rf_r A) (rf_d A) q - bf_o t (rf_l A) (rf_u A) q := by have := rf_or (t := t) (A := A) (q := q); omega
theorem rf_least {Q : List mv_V → mv_M → Prop} {M : mv_M} {a b : Int} (k : Q [.inl (min a b)] M) : mv_J md_RM_least [.inl a, .inl b] M Q := by
  refine mv_enter (by decide +kernel) (Nat.le_of_ble_eq_true rfl) ?_
  show mv_W md_RM_least 0 [.inl a, .inl b] [] M (0, 0) Q
  refine mx_iload_n d_RM_least_0 rfl ?_
  refine mx_iload_n d_RM_least_1 rfl ?_
  refine mx_icmp_ge 9 d_RM_least_2 (by decide) (fun c2 => ?_) (fun c2 => ?_)
  · skip
    refine mx_iload_n d_RM_least_9 rfl ?_
    refine mx_ireturn d_RM_least_10 rfl ?_
    first | (rw [show min a b = a by omega] at k; exact k) | (rw [show min a b = b by omega] at k; exact k)
  · skip
    refine mx_iload_n d_RM_least_5 rfl ?_
    refine mx_goto 10 d_RM_least_6 (by decide) ?_
    refine mx_ireturn d_RM_least_10 rfl ?_
    first | (rw [show min a b = a by omega] at k; exact k) | (rw [show min a b = b by omega] at k; exact k)
theorem rf_most {Q : List mv_V → mv_M → Prop} {M : mv_M} {a b : Int} (k : Q [.inl (max a b)] M) : mv_J md_RM_most [.inl a, .inl b] M Q := by
  refine mv_enter (by decide +kernel) (Nat.le_of_ble_eq_true rfl) ?_
  show mv_W md_RM_most 0 [.inl a, .inl b] [] M (0, 0) Q
  refine mx_iload_n d_RM_most_0 rfl ?_
  refine mx_iload_n d_RM_most_1 rfl ?_
  refine mx_icmp_le 9 d_RM_most_2 (by decide) (fun c2 => ?_) (fun c2 => ?_)
  · skip
    refine mx_iload_n d_RM_most_9 rfl ?_
    refine mx_ireturn d_RM_most_10 rfl ?_
    first | (rw [show max a b = a by omega] at k; exact k) | (rw [show max a b = b by omega] at k; exact k)
  · skip
    refine mx_iload_n d_RM_most_5 rfl ?_
    refine mx_goto 10 d_RM_most_6 (by decide) ?_
    refine mx_ireturn d_RM_most_10 rfl ?_
    first | (rw [show max a b = a by omega] at k; exact k) | (rw [show max a b = b by omega] at k; exact k)
theorem rf_sb0 {Q : List mv_V → mv_M → Prop} {M : mv_M} {co wi ta bo pa wy lc fo tu bl kl se ow : Int} (hO : rf_O M co wi ta bo pa wy lc fo tu bl kl se ow) (hwy : wy = 0 ∨ wy = 1) {B : Int → Int} (hBox : M.2 48 = .inl (256, B)) {q : Int} (q0 : 0 ≤ q) (q1 : q < 64) (k : Q [.inl (bf_o wy (rf_l B) (rf_u B) q)] M) : mv_J md_RM_side [.inr 47, .inl q, .inl 0] M Q := by
  refine mv_enter (by decide +kernel) (Nat.le_of_ble_eq_true rfl) ?_
  show mv_W md_RM_side 0 [.inr 47, .inl q, .inl 0, .inr 0] [] M (0, 0) Q
  refine mx_aload_n d_RM_side_0 rfl (by omega) ?_
  refine mx_gl d_RM_side_1 f_RM_79 hO rfl ?_
  refine mx_if_eq 13 d_RM_side_4 (by decide) (fun c4 => ?_) (fun c4 => ?_)
  · skip
    refine mx_iload_n d_RM_side_13 rfl ?_
    refine mx_istore_n d_RM_side_14 (by decide) ?_
    refine mx_iload_n d_RM_side_15 rfl ?_
    refine mx_bipush (64) d_RM_side_16 (by decide +kernel) (by unfold mv_r; omega) ?_
    refine mx_icmp_ge 34 d_RM_side_18 (by decide) (fun c18 => ?_) (fun c18 => ?_)
    · skip
      exfalso; omega
    · skip
      refine mx_aload_n d_RM_side_21 rfl (by omega) ?_
      refine mx_gl d_RM_side_22 f_RM_7 hO rfl ?_
      refine mx_iconst (4) d_RM_side_25 (by decide +kernel) (by unfold mv_r; omega) ?_
      refine mx_iload_n d_RM_side_26 rfl ?_
      refine mx_imul d_RM_side_27 (by unfold mv_r; omega) ?_
      refine mx_iload_n d_RM_side_28 rfl ?_
      refine mx_iadd d_RM_side_29 (by unfold mv_r; omega) ?_
      try simp only [Int.add_zero]
      refine mx_iald d_RM_side_30 hBox (by omega) (by omega) ?_
      refine mx_goto 47 d_RM_side_31 (by decide) ?_
      refine mx_ireturn d_RM_side_47 rfl ?_
      first | (rw [show bf_o wy (rf_l B) (rf_u B) q = rf_l B q from if_neg (by omega)] at k; exact k) | (rw [show bf_o wy (rf_l B) (rf_u B) q = rf_u B q from if_pos (by omega)] at k; exact k)
  · skip
    refine mx_iload_n d_RM_side_7 rfl ?_
    refine mx_iconst (1) d_RM_side_8 (by decide +kernel) (by unfold mv_r; omega) ?_
    refine mx_ixor (1) d_RM_side_9 (by decide +kernel) (by unfold mv_r; omega) ?_
    refine mx_goto 14 d_RM_side_10 (by decide) ?_
    refine mx_istore_n d_RM_side_14 (by decide) ?_
    refine mx_iload_n d_RM_side_15 rfl ?_
    refine mx_bipush (64) d_RM_side_16 (by decide +kernel) (by unfold mv_r; omega) ?_
    refine mx_icmp_ge 34 d_RM_side_18 (by decide) (fun c18 => ?_) (fun c18 => ?_)
    · skip
      exfalso; omega
    · skip
      refine mx_aload_n d_RM_side_21 rfl (by omega) ?_
      refine mx_gl d_RM_side_22 f_RM_7 hO rfl ?_
      refine mx_iconst (4) d_RM_side_25 (by decide +kernel) (by unfold mv_r; omega) ?_
      refine mx_iload_n d_RM_side_26 rfl ?_
      refine mx_imul d_RM_side_27 (by unfold mv_r; omega) ?_
      refine mx_iload_n d_RM_side_28 rfl ?_
      refine mx_iadd d_RM_side_29 (by unfold mv_r; omega) ?_
      try simp only [Int.add_zero]
      refine mx_iald d_RM_side_30 hBox (by omega) (by omega) ?_
      refine mx_goto 47 d_RM_side_31 (by decide) ?_
      refine mx_ireturn d_RM_side_47 rfl ?_
      first | (rw [show bf_o wy (rf_l B) (rf_u B) q = rf_l B q from if_neg (by omega)] at k; exact k) | (rw [show bf_o wy (rf_l B) (rf_u B) q = rf_u B q from if_pos (by omega)] at k; exact k)
theorem rf_sb1 {Q : List mv_V → mv_M → Prop} {M : mv_M} {co wi ta bo pa wy lc fo tu bl kl se ow : Int} (hO : rf_O M co wi ta bo pa wy lc fo tu bl kl se ow) (hwy : wy = 0 ∨ wy = 1) {B : Int → Int} (hBox : M.2 48 = .inl (256, B)) {q : Int} (q0 : 0 ≤ q) (q1 : q < 64) (k : Q [.inl (bf_o wy (rf_u B) (rf_l B) q)] M) : mv_J md_RM_side [.inr 47, .inl q, .inl 1] M Q := by
  refine mv_enter (by decide +kernel) (Nat.le_of_ble_eq_true rfl) ?_
  show mv_W md_RM_side 0 [.inr 47, .inl q, .inl 1, .inr 0] [] M (0, 0) Q
  refine mx_aload_n d_RM_side_0 rfl (by omega) ?_
  refine mx_gl d_RM_side_1 f_RM_79 hO rfl ?_
  refine mx_if_eq 13 d_RM_side_4 (by decide) (fun c4 => ?_) (fun c4 => ?_)
  · skip
    refine mx_iload_n d_RM_side_13 rfl ?_
    refine mx_istore_n d_RM_side_14 (by decide) ?_
    refine mx_iload_n d_RM_side_15 rfl ?_
    refine mx_bipush (64) d_RM_side_16 (by decide +kernel) (by unfold mv_r; omega) ?_
    refine mx_icmp_ge 34 d_RM_side_18 (by decide) (fun c18 => ?_) (fun c18 => ?_)
    · skip
      exfalso; omega
    · skip
      refine mx_aload_n d_RM_side_21 rfl (by omega) ?_
      refine mx_gl d_RM_side_22 f_RM_7 hO rfl ?_
      refine mx_iconst (4) d_RM_side_25 (by decide +kernel) (by unfold mv_r; omega) ?_
      refine mx_iload_n d_RM_side_26 rfl ?_
      refine mx_imul d_RM_side_27 (by unfold mv_r; omega) ?_
      refine mx_iload_n d_RM_side_28 rfl ?_
      refine mx_iadd d_RM_side_29 (by unfold mv_r; omega) ?_
      try simp only [Int.add_zero]
      refine mx_iald d_RM_side_30 hBox (by omega) (by omega) ?_
      refine mx_goto 47 d_RM_side_31 (by decide) ?_
      refine mx_ireturn d_RM_side_47 rfl ?_
      first | (rw [show bf_o wy (rf_u B) (rf_l B) q = rf_u B q from if_neg (by omega)] at k; exact k) | (rw [show bf_o wy (rf_u B) (rf_l B) q = rf_l B q from if_pos (by omega)] at k; exact k)
  · skip
    refine mx_iload_n d_RM_side_7 rfl ?_
    refine mx_iconst (1) d_RM_side_8 (by decide +kernel) (by unfold mv_r; omega) ?_
    refine mx_ixor (0) d_RM_side_9 (by decide +kernel) (by unfold mv_r; omega) ?_
    refine mx_goto 14 d_RM_side_10 (by decide) ?_
    refine mx_istore_n d_RM_side_14 (by decide) ?_
    refine mx_iload_n d_RM_side_15 rfl ?_
    refine mx_bipush (64) d_RM_side_16 (by decide +kernel) (by unfold mv_r; omega) ?_
    refine mx_icmp_ge 34 d_RM_side_18 (by decide) (fun c18 => ?_) (fun c18 => ?_)
    · skip
      exfalso; omega
    · skip
      refine mx_aload_n d_RM_side_21 rfl (by omega) ?_
      refine mx_gl d_RM_side_22 f_RM_7 hO rfl ?_
      refine mx_iconst (4) d_RM_side_25 (by decide +kernel) (by unfold mv_r; omega) ?_
      refine mx_iload_n d_RM_side_26 rfl ?_
      refine mx_imul d_RM_side_27 (by unfold mv_r; omega) ?_
      refine mx_iload_n d_RM_side_28 rfl ?_
      refine mx_iadd d_RM_side_29 (by unfold mv_r; omega) ?_
      try simp only [Int.add_zero]
      refine mx_iald d_RM_side_30 hBox (by omega) (by omega) ?_
      refine mx_goto 47 d_RM_side_31 (by decide) ?_
      refine mx_ireturn d_RM_side_47 rfl ?_
      first | (rw [show bf_o wy (rf_u B) (rf_l B) q = rf_u B q from if_neg (by omega)] at k; exact k) | (rw [show bf_o wy (rf_u B) (rf_l B) q = rf_l B q from if_pos (by omega)] at k; exact k)
theorem rf_sb2 {Q : List mv_V → mv_M → Prop} {M : mv_M} {co wi ta bo pa wy lc fo tu bl kl se ow : Int} (hO : rf_O M co wi ta bo pa wy lc fo tu bl kl se ow) (hwy : wy = 0 ∨ wy = 1) {B : Int → Int} (hBox : M.2 48 = .inl (256, B)) {q : Int} (q0 : 0 ≤ q) (q1 : q < 64) (k : Q [.inl (bf_o wy (rf_w B) (rf_h B) q)] M) : mv_J md_RM_side [.inr 47, .inl q, .inl 2] M Q := by
  refine mv_enter (by decide +kernel) (Nat.le_of_ble_eq_true rfl) ?_
  show mv_W md_RM_side 0 [.inr 47, .inl q, .inl 2, .inr 0] [] M (0, 0) Q
  refine mx_aload_n d_RM_side_0 rfl (by omega) ?_
  refine mx_gl d_RM_side_1 f_RM_79 hO rfl ?_
  refine mx_if_eq 13 d_RM_side_4 (by decide) (fun c4 => ?_) (fun c4 => ?_)
  · skip
    refine mx_iload_n d_RM_side_13 rfl ?_
    refine mx_istore_n d_RM_side_14 (by decide) ?_
    refine mx_iload_n d_RM_side_15 rfl ?_
    refine mx_bipush (64) d_RM_side_16 (by decide +kernel) (by unfold mv_r; omega) ?_
    refine mx_icmp_ge 34 d_RM_side_18 (by decide) (fun c18 => ?_) (fun c18 => ?_)
    · skip
      exfalso; omega
    · skip
      refine mx_aload_n d_RM_side_21 rfl (by omega) ?_
      refine mx_gl d_RM_side_22 f_RM_7 hO rfl ?_
      refine mx_iconst (4) d_RM_side_25 (by decide +kernel) (by unfold mv_r; omega) ?_
      refine mx_iload_n d_RM_side_26 rfl ?_
      refine mx_imul d_RM_side_27 (by unfold mv_r; omega) ?_
      refine mx_iload_n d_RM_side_28 rfl ?_
      refine mx_iadd d_RM_side_29 (by unfold mv_r; omega) ?_
      try simp only [Int.add_zero]
      refine mx_iald d_RM_side_30 hBox (by omega) (by omega) ?_
      refine mx_goto 47 d_RM_side_31 (by decide) ?_
      refine mx_ireturn d_RM_side_47 rfl ?_
      first | (rw [show bf_o wy (rf_w B) (rf_h B) q = rf_w B q from if_neg (by omega)] at k; exact k) | (rw [show bf_o wy (rf_w B) (rf_h B) q = rf_h B q from if_pos (by omega)] at k; exact k)
  · skip
    refine mx_iload_n d_RM_side_7 rfl ?_
    refine mx_iconst (1) d_RM_side_8 (by decide +kernel) (by unfold mv_r; omega) ?_
    refine mx_ixor (3) d_RM_side_9 (by decide +kernel) (by unfold mv_r; omega) ?_
    refine mx_goto 14 d_RM_side_10 (by decide) ?_
    refine mx_istore_n d_RM_side_14 (by decide) ?_
    refine mx_iload_n d_RM_side_15 rfl ?_
    refine mx_bipush (64) d_RM_side_16 (by decide +kernel) (by unfold mv_r; omega) ?_
    refine mx_icmp_ge 34 d_RM_side_18 (by decide) (fun c18 => ?_) (fun c18 => ?_)
    · skip
      exfalso; omega
    · skip
      refine mx_aload_n d_RM_side_21 rfl (by omega) ?_
      refine mx_gl d_RM_side_22 f_RM_7 hO rfl ?_
      refine mx_iconst (4) d_RM_side_25 (by decide +kernel) (by unfold mv_r; omega) ?_
      refine mx_iload_n d_RM_side_26 rfl ?_
      refine mx_imul d_RM_side_27 (by unfold mv_r; omega) ?_
      refine mx_iload_n d_RM_side_28 rfl ?_
      refine mx_iadd d_RM_side_29 (by unfold mv_r; omega) ?_
      try simp only [Int.add_zero]
      refine mx_iald d_RM_side_30 hBox (by omega) (by omega) ?_
      refine mx_goto 47 d_RM_side_31 (by decide) ?_
      refine mx_ireturn d_RM_side_47 rfl ?_
      first | (rw [show bf_o wy (rf_w B) (rf_h B) q = rf_w B q from if_neg (by omega)] at k; exact k) | (rw [show bf_o wy (rf_w B) (rf_h B) q = rf_h B q from if_pos (by omega)] at k; exact k)
theorem rf_sb3 {Q : List mv_V → mv_M → Prop} {M : mv_M} {co wi ta bo pa wy lc fo tu bl kl se ow : Int} (hO : rf_O M co wi ta bo pa wy lc fo tu bl kl se ow) (hwy : wy = 0 ∨ wy = 1) {B : Int → Int} (hBox : M.2 48 = .inl (256, B)) {q : Int} (q0 : 0 ≤ q) (q1 : q < 64) (k : Q [.inl (bf_o wy (rf_h B) (rf_w B) q)] M) : mv_J md_RM_side [.inr 47, .inl q, .inl 3] M Q := by
  refine mv_enter (by decide +kernel) (Nat.le_of_ble_eq_true rfl) ?_
  show mv_W md_RM_side 0 [.inr 47, .inl q, .inl 3, .inr 0] [] M (0, 0) Q
  refine mx_aload_n d_RM_side_0 rfl (by omega) ?_
  refine mx_gl d_RM_side_1 f_RM_79 hO rfl ?_
  refine mx_if_eq 13 d_RM_side_4 (by decide) (fun c4 => ?_) (fun c4 => ?_)
  · skip
    refine mx_iload_n d_RM_side_13 rfl ?_
    refine mx_istore_n d_RM_side_14 (by decide) ?_
    refine mx_iload_n d_RM_side_15 rfl ?_
    refine mx_bipush (64) d_RM_side_16 (by decide +kernel) (by unfold mv_r; omega) ?_
    refine mx_icmp_ge 34 d_RM_side_18 (by decide) (fun c18 => ?_) (fun c18 => ?_)
    · skip
      exfalso; omega
    · skip
      refine mx_aload_n d_RM_side_21 rfl (by omega) ?_
      refine mx_gl d_RM_side_22 f_RM_7 hO rfl ?_
      refine mx_iconst (4) d_RM_side_25 (by decide +kernel) (by unfold mv_r; omega) ?_
      refine mx_iload_n d_RM_side_26 rfl ?_
      refine mx_imul d_RM_side_27 (by unfold mv_r; omega) ?_
      refine mx_iload_n d_RM_side_28 rfl ?_
      refine mx_iadd d_RM_side_29 (by unfold mv_r; omega) ?_
      try simp only [Int.add_zero]
      refine mx_iald d_RM_side_30 hBox (by omega) (by omega) ?_
      refine mx_goto 47 d_RM_side_31 (by decide) ?_
      refine mx_ireturn d_RM_side_47 rfl ?_
      first | (rw [show bf_o wy (rf_h B) (rf_w B) q = rf_h B q from if_neg (by omega)] at k; exact k) | (rw [show bf_o wy (rf_h B) (rf_w B) q = rf_w B q from if_pos (by omega)] at k; exact k)
  · skip
    refine mx_iload_n d_RM_side_7 rfl ?_
    refine mx_iconst (1) d_RM_side_8 (by decide +kernel) (by unfold mv_r; omega) ?_
    refine mx_ixor (2) d_RM_side_9 (by decide +kernel) (by unfold mv_r; omega) ?_
    refine mx_goto 14 d_RM_side_10 (by decide) ?_
    refine mx_istore_n d_RM_side_14 (by decide) ?_
    refine mx_iload_n d_RM_side_15 rfl ?_
    refine mx_bipush (64) d_RM_side_16 (by decide +kernel) (by unfold mv_r; omega) ?_
    refine mx_icmp_ge 34 d_RM_side_18 (by decide) (fun c18 => ?_) (fun c18 => ?_)
    · skip
      exfalso; omega
    · skip
      refine mx_aload_n d_RM_side_21 rfl (by omega) ?_
      refine mx_gl d_RM_side_22 f_RM_7 hO rfl ?_
      refine mx_iconst (4) d_RM_side_25 (by decide +kernel) (by unfold mv_r; omega) ?_
      refine mx_iload_n d_RM_side_26 rfl ?_
      refine mx_imul d_RM_side_27 (by unfold mv_r; omega) ?_
      refine mx_iload_n d_RM_side_28 rfl ?_
      refine mx_iadd d_RM_side_29 (by unfold mv_r; omega) ?_
      try simp only [Int.add_zero]
      refine mx_iald d_RM_side_30 hBox (by omega) (by omega) ?_
      refine mx_goto 47 d_RM_side_31 (by decide) ?_
      refine mx_ireturn d_RM_side_47 rfl ?_
      first | (rw [show bf_o wy (rf_h B) (rf_w B) q = rf_h B q from if_neg (by omega)] at k; exact k) | (rw [show bf_o wy (rf_h B) (rf_w B) q = rf_w B q from if_pos (by omega)] at k; exact k)
theorem rf_left_b {Q : List mv_V → mv_M → Prop} {M : mv_M} {co wi ta bo pa wy lc fo tu bl kl se ow : Int} (hO : rf_O M co wi ta bo pa wy lc fo tu bl kl se ow) (hwy : wy = 0 ∨ wy = 1) {B : Int → Int} (hBox : M.2 48 = .inl (256, B)) {q : Int} (q0 : 0 ≤ q) (q1 : q < 64) (k : Q [.inl (bf_o wy (rf_l B) (rf_u B) q)] M) : mv_J md_RM_left [.inr 47, .inl q] M Q := by
  refine mv_enter (by decide +kernel) (Nat.le_of_ble_eq_true rfl) ?_
  show mv_W md_RM_left 0 [.inr 47, .inl q] [] M (0, 0) Q
  refine mx_aload_n d_RM_left_0 rfl (by omega) ?_
  refine mx_iload_n d_RM_left_1 rfl ?_
  refine mx_iconst (0) d_RM_left_2 (by decide +kernel) (by unfold mv_r; omega) ?_
  refine mx_cV2 d_RM_left_3 c_RM_83 hO (by decide) (Nat.le_of_ble_eq_true rfl) ?_
  refine rf_sb0 hO hwy hBox q0 q1 ?_
  refine mx_ireturn d_RM_left_6 rfl ?_
  exact k
theorem rf_upper_b {Q : List mv_V → mv_M → Prop} {M : mv_M} {co wi ta bo pa wy lc fo tu bl kl se ow : Int} (hO : rf_O M co wi ta bo pa wy lc fo tu bl kl se ow) (hwy : wy = 0 ∨ wy = 1) {B : Int → Int} (hBox : M.2 48 = .inl (256, B)) {q : Int} (q0 : 0 ≤ q) (q1 : q < 64) (k : Q [.inl (bf_o wy (rf_u B) (rf_l B) q)] M) : mv_J md_RM_upper [.inr 47, .inl q] M Q := by
  refine mv_enter (by decide +kernel) (Nat.le_of_ble_eq_true rfl) ?_
  show mv_W md_RM_upper 0 [.inr 47, .inl q] [] M (0, 0) Q
  refine mx_aload_n d_RM_upper_0 rfl (by omega) ?_
  refine mx_iload_n d_RM_upper_1 rfl ?_
  refine mx_iconst (1) d_RM_upper_2 (by decide +kernel) (by unfold mv_r; omega) ?_
  refine mx_cV2 d_RM_upper_3 c_RM_83 hO (by decide) (Nat.le_of_ble_eq_true rfl) ?_
  refine rf_sb1 hO hwy hBox q0 q1 ?_
  refine mx_ireturn d_RM_upper_6 rfl ?_
  exact k
theorem rf_high_b {Q : List mv_V → mv_M → Prop} {M : mv_M} {co wi ta bo pa wy lc fo tu bl kl se ow : Int} (hO : rf_O M co wi ta bo pa wy lc fo tu bl kl se ow) (hwy : wy = 0 ∨ wy = 1) {B : Int → Int} (hBox : M.2 48 = .inl (256, B)) {q : Int} (q0 : 0 ≤ q) (q1 : q < 64) (k : Q [.inl (bf_o wy (rf_d B) (rf_r B) q - bf_o wy (rf_u B) (rf_l B) q)] M) : mv_J md_RM_high [.inr 47, .inl q] M Q := by
  refine mv_enter (by decide +kernel) (Nat.le_of_ble_eq_true rfl) ?_
  show mv_W md_RM_high 0 [.inr 47, .inl q] [] M (0, 0) Q
  refine mx_aload_n d_RM_high_0 rfl (by omega) ?_
  refine mx_iload_n d_RM_high_1 rfl ?_
  refine mx_iconst (3) d_RM_high_2 (by decide +kernel) (by unfold mv_r; omega) ?_
  refine mx_cV2 d_RM_high_3 c_RM_83 hO (by decide) (Nat.le_of_ble_eq_true rfl) ?_
  refine rf_sb3 hO hwy hBox q0 q1 ?_
  refine mx_ireturn d_RM_high_6 rfl ?_
  rw [rf_oh]
  exact k
theorem rf_right_b {Q : List mv_V → mv_M → Prop} {M : mv_M} {co wi ta bo pa wy lc fo tu bl kl se ow : Int} (hO : rf_O M co wi ta bo pa wy lc fo tu bl kl se ow) (hwy : wy = 0 ∨ wy = 1) {B : Int → Int} (hBox : M.2 48 = .inl (256, B)) {q : Int} (q0 : 0 ≤ q) (q1 : q < 64) {cnt : Int} (hok : rf_ok cnt B) (q2 : q < cnt) (k : Q [.inl (bf_o wy (rf_r B) (rf_d B) q)] M) : mv_J md_RM_right [.inr 47, .inl q] M Q := by
  refine mv_enter (by decide +kernel) (Nat.le_of_ble_eq_true rfl) ?_
  show mv_W md_RM_right 0 [.inr 47, .inl q] [] M (0, 0) Q
  have hbo := bf_ob hok q0 q2 wy
  have hr1 := rf_or (t := wy) (A := B) (q := q)
  have hr2 := rf_od (t := wy) (A := B) (q := q)
  refine mx_aload_n d_RM_right_0 rfl (by omega) ?_
  refine mx_iload_n d_RM_right_1 rfl ?_
  refine mx_iconst (0) d_RM_right_2 (by decide +kernel) (by unfold mv_r; omega) ?_
  refine mx_cV2 d_RM_right_3 c_RM_83 hO (by decide) (Nat.le_of_ble_eq_true rfl) ?_
  refine rf_sb0 hO hwy hBox q0 q1 ?_
  refine mx_aload_n d_RM_right_6 rfl (by omega) ?_
  refine mx_iload_n d_RM_right_7 rfl ?_
  refine mx_iconst (2) d_RM_right_8 (by decide +kernel) (by unfold mv_r; omega) ?_
  refine mx_cV2 d_RM_right_9 c_RM_83 hO (by decide) (Nat.le_of_ble_eq_true rfl) ?_
  refine rf_sb2 hO hwy hBox q0 q1 ?_
  refine mx_iadd d_RM_right_12 (by unfold mv_r; omega) ?_
  refine mx_ireturn d_RM_right_13 rfl ?_
  rw [rf_or]
  exact k
theorem rf_lower_b {Q : List mv_V → mv_M → Prop} {M : mv_M} {co wi ta bo pa wy lc fo tu bl kl se ow : Int} (hO : rf_O M co wi ta bo pa wy lc fo tu bl kl se ow) (hwy : wy = 0 ∨ wy = 1) {B : Int → Int} (hBox : M.2 48 = .inl (256, B)) {q : Int} (q0 : 0 ≤ q) (q1 : q < 64) {cnt : Int} (hok : rf_ok cnt B) (q2 : q < cnt) (k : Q [.inl (bf_o wy (rf_d B) (rf_r B) q)] M) : mv_J md_RM_lower [.inr 47, .inl q] M Q := by
  refine mv_enter (by decide +kernel) (Nat.le_of_ble_eq_true rfl) ?_
  show mv_W md_RM_lower 0 [.inr 47, .inl q] [] M (0, 0) Q
  have hbo := bf_ob hok q0 q2 wy
  have hr1 := rf_or (t := wy) (A := B) (q := q)
  have hr2 := rf_od (t := wy) (A := B) (q := q)
  refine mx_aload_n d_RM_lower_0 rfl (by omega) ?_
  refine mx_iload_n d_RM_lower_1 rfl ?_
  refine mx_iconst (1) d_RM_lower_2 (by decide +kernel) (by unfold mv_r; omega) ?_
  refine mx_cV2 d_RM_lower_3 c_RM_83 hO (by decide) (Nat.le_of_ble_eq_true rfl) ?_
  refine rf_sb1 hO hwy hBox q0 q1 ?_
  refine mx_aload_n d_RM_lower_6 rfl (by omega) ?_
  refine mx_iload_n d_RM_lower_7 rfl ?_
  refine mx_iconst (3) d_RM_lower_8 (by decide +kernel) (by unfold mv_r; omega) ?_
  refine mx_cV2 d_RM_lower_9 c_RM_83 hO (by decide) (Nat.le_of_ble_eq_true rfl) ?_
  refine rf_sb3 hO hwy hBox q0 q1 ?_
  refine mx_iadd d_RM_lower_12 (by unfold mv_r; omega) ?_
  refine mx_ireturn d_RM_lower_13 rfl ?_
  rw [rf_od]
  exact k
theorem rf_sl0 {Q : List mv_V → mv_M → Prop} {M : mv_M} {co wi ta bo pa wy lc fo tu bl kl se ow : Int} (hO : rf_O M co wi ta bo pa wy lc fo tu bl kl se ow) (hwy : wy = 0 ∨ wy = 1) {L : Int → Int} (hLin : M.2 51 = .inl (256, L)) {q : Int} (q0 : 0 ≤ q) (q1 : q < 64) (k : Q [.inl (bf_o wy (rf_l L) (rf_u L) q)] M) : mv_J md_RM_side [.inr 47, .inl (64 + q), .inl 0] M Q := by
  refine mv_enter (by decide +kernel) (Nat.le_of_ble_eq_true rfl) ?_
  show mv_W md_RM_side 0 [.inr 47, .inl (64 + q), .inl 0, .inr 0] [] M (0, 0) Q
  refine mx_aload_n d_RM_side_0 rfl (by omega) ?_
  refine mx_gl d_RM_side_1 f_RM_79 hO rfl ?_
  refine mx_if_eq 13 d_RM_side_4 (by decide) (fun c4 => ?_) (fun c4 => ?_)
  · skip
    refine mx_iload_n d_RM_side_13 rfl ?_
    refine mx_istore_n d_RM_side_14 (by decide) ?_
    refine mx_iload_n d_RM_side_15 rfl ?_
    refine mx_bipush (64) d_RM_side_16 (by decide +kernel) (by unfold mv_r; omega) ?_
    refine mx_icmp_ge 34 d_RM_side_18 (by decide) (fun c18 => ?_) (fun c18 => ?_)
    · skip
      refine mx_aload_n d_RM_side_34 rfl (by omega) ?_
      refine mx_gl d_RM_side_35 f_RM_19 hO rfl ?_
      refine mx_iconst (4) d_RM_side_38 (by decide +kernel) (by unfold mv_r; omega) ?_
      refine mx_iload_n d_RM_side_39 rfl ?_
      refine mx_bipush (64) d_RM_side_40 (by decide +kernel) (by unfold mv_r; omega) ?_
      refine mx_isub d_RM_side_42 (by unfold mv_r; omega) ?_
      rw [show 64 + q - 64 = q by omega]
      refine mx_imul d_RM_side_43 (by unfold mv_r; omega) ?_
      refine mx_iload_n d_RM_side_44 rfl ?_
      refine mx_iadd d_RM_side_45 (by unfold mv_r; omega) ?_
      try simp only [Int.add_zero]
      refine mx_iald d_RM_side_46 hLin (by omega) (by omega) ?_
      refine mx_ireturn d_RM_side_47 rfl ?_
      first | (rw [show bf_o wy (rf_l L) (rf_u L) q = rf_l L q from if_neg (by omega)] at k; exact k) | (rw [show bf_o wy (rf_l L) (rf_u L) q = rf_u L q from if_pos (by omega)] at k; exact k)
    · skip
      exfalso; omega
  · skip
    refine mx_iload_n d_RM_side_7 rfl ?_
    refine mx_iconst (1) d_RM_side_8 (by decide +kernel) (by unfold mv_r; omega) ?_
    refine mx_ixor (1) d_RM_side_9 (by decide +kernel) (by unfold mv_r; omega) ?_
    refine mx_goto 14 d_RM_side_10 (by decide) ?_
    refine mx_istore_n d_RM_side_14 (by decide) ?_
    refine mx_iload_n d_RM_side_15 rfl ?_
    refine mx_bipush (64) d_RM_side_16 (by decide +kernel) (by unfold mv_r; omega) ?_
    refine mx_icmp_ge 34 d_RM_side_18 (by decide) (fun c18 => ?_) (fun c18 => ?_)
    · skip
      refine mx_aload_n d_RM_side_34 rfl (by omega) ?_
      refine mx_gl d_RM_side_35 f_RM_19 hO rfl ?_
      refine mx_iconst (4) d_RM_side_38 (by decide +kernel) (by unfold mv_r; omega) ?_
      refine mx_iload_n d_RM_side_39 rfl ?_
      refine mx_bipush (64) d_RM_side_40 (by decide +kernel) (by unfold mv_r; omega) ?_
      refine mx_isub d_RM_side_42 (by unfold mv_r; omega) ?_
      rw [show 64 + q - 64 = q by omega]
      refine mx_imul d_RM_side_43 (by unfold mv_r; omega) ?_
      refine mx_iload_n d_RM_side_44 rfl ?_
      refine mx_iadd d_RM_side_45 (by unfold mv_r; omega) ?_
      try simp only [Int.add_zero]
      refine mx_iald d_RM_side_46 hLin (by omega) (by omega) ?_
      refine mx_ireturn d_RM_side_47 rfl ?_
      first | (rw [show bf_o wy (rf_l L) (rf_u L) q = rf_l L q from if_neg (by omega)] at k; exact k) | (rw [show bf_o wy (rf_l L) (rf_u L) q = rf_u L q from if_pos (by omega)] at k; exact k)
    · skip
      exfalso; omega
theorem rf_sl1 {Q : List mv_V → mv_M → Prop} {M : mv_M} {co wi ta bo pa wy lc fo tu bl kl se ow : Int} (hO : rf_O M co wi ta bo pa wy lc fo tu bl kl se ow) (hwy : wy = 0 ∨ wy = 1) {L : Int → Int} (hLin : M.2 51 = .inl (256, L)) {q : Int} (q0 : 0 ≤ q) (q1 : q < 64) (k : Q [.inl (bf_o wy (rf_u L) (rf_l L) q)] M) : mv_J md_RM_side [.inr 47, .inl (64 + q), .inl 1] M Q := by
  refine mv_enter (by decide +kernel) (Nat.le_of_ble_eq_true rfl) ?_
  show mv_W md_RM_side 0 [.inr 47, .inl (64 + q), .inl 1, .inr 0] [] M (0, 0) Q
  refine mx_aload_n d_RM_side_0 rfl (by omega) ?_
  refine mx_gl d_RM_side_1 f_RM_79 hO rfl ?_
  refine mx_if_eq 13 d_RM_side_4 (by decide) (fun c4 => ?_) (fun c4 => ?_)
  · skip
    refine mx_iload_n d_RM_side_13 rfl ?_
    refine mx_istore_n d_RM_side_14 (by decide) ?_
    refine mx_iload_n d_RM_side_15 rfl ?_
    refine mx_bipush (64) d_RM_side_16 (by decide +kernel) (by unfold mv_r; omega) ?_
    refine mx_icmp_ge 34 d_RM_side_18 (by decide) (fun c18 => ?_) (fun c18 => ?_)
    · skip
      refine mx_aload_n d_RM_side_34 rfl (by omega) ?_
      refine mx_gl d_RM_side_35 f_RM_19 hO rfl ?_
      refine mx_iconst (4) d_RM_side_38 (by decide +kernel) (by unfold mv_r; omega) ?_
      refine mx_iload_n d_RM_side_39 rfl ?_
      refine mx_bipush (64) d_RM_side_40 (by decide +kernel) (by unfold mv_r; omega) ?_
      refine mx_isub d_RM_side_42 (by unfold mv_r; omega) ?_
      rw [show 64 + q - 64 = q by omega]
      refine mx_imul d_RM_side_43 (by unfold mv_r; omega) ?_
      refine mx_iload_n d_RM_side_44 rfl ?_
      refine mx_iadd d_RM_side_45 (by unfold mv_r; omega) ?_
      try simp only [Int.add_zero]
      refine mx_iald d_RM_side_46 hLin (by omega) (by omega) ?_
      refine mx_ireturn d_RM_side_47 rfl ?_
      first | (rw [show bf_o wy (rf_u L) (rf_l L) q = rf_u L q from if_neg (by omega)] at k; exact k) | (rw [show bf_o wy (rf_u L) (rf_l L) q = rf_l L q from if_pos (by omega)] at k; exact k)
    · skip
      exfalso; omega
  · skip
    refine mx_iload_n d_RM_side_7 rfl ?_
    refine mx_iconst (1) d_RM_side_8 (by decide +kernel) (by unfold mv_r; omega) ?_
    refine mx_ixor (0) d_RM_side_9 (by decide +kernel) (by unfold mv_r; omega) ?_
    refine mx_goto 14 d_RM_side_10 (by decide) ?_
    refine mx_istore_n d_RM_side_14 (by decide) ?_
    refine mx_iload_n d_RM_side_15 rfl ?_
    refine mx_bipush (64) d_RM_side_16 (by decide +kernel) (by unfold mv_r; omega) ?_
    refine mx_icmp_ge 34 d_RM_side_18 (by decide) (fun c18 => ?_) (fun c18 => ?_)
    · skip
      refine mx_aload_n d_RM_side_34 rfl (by omega) ?_
      refine mx_gl d_RM_side_35 f_RM_19 hO rfl ?_
      refine mx_iconst (4) d_RM_side_38 (by decide +kernel) (by unfold mv_r; omega) ?_
      refine mx_iload_n d_RM_side_39 rfl ?_
      refine mx_bipush (64) d_RM_side_40 (by decide +kernel) (by unfold mv_r; omega) ?_
      refine mx_isub d_RM_side_42 (by unfold mv_r; omega) ?_
      rw [show 64 + q - 64 = q by omega]
      refine mx_imul d_RM_side_43 (by unfold mv_r; omega) ?_
      refine mx_iload_n d_RM_side_44 rfl ?_
      refine mx_iadd d_RM_side_45 (by unfold mv_r; omega) ?_
      try simp only [Int.add_zero]
      refine mx_iald d_RM_side_46 hLin (by omega) (by omega) ?_
      refine mx_ireturn d_RM_side_47 rfl ?_
      first | (rw [show bf_o wy (rf_u L) (rf_l L) q = rf_u L q from if_neg (by omega)] at k; exact k) | (rw [show bf_o wy (rf_u L) (rf_l L) q = rf_l L q from if_pos (by omega)] at k; exact k)
    · skip
      exfalso; omega
theorem rf_sl2 {Q : List mv_V → mv_M → Prop} {M : mv_M} {co wi ta bo pa wy lc fo tu bl kl se ow : Int} (hO : rf_O M co wi ta bo pa wy lc fo tu bl kl se ow) (hwy : wy = 0 ∨ wy = 1) {L : Int → Int} (hLin : M.2 51 = .inl (256, L)) {q : Int} (q0 : 0 ≤ q) (q1 : q < 64) (k : Q [.inl (bf_o wy (rf_w L) (rf_h L) q)] M) : mv_J md_RM_side [.inr 47, .inl (64 + q), .inl 2] M Q := by
  refine mv_enter (by decide +kernel) (Nat.le_of_ble_eq_true rfl) ?_
  show mv_W md_RM_side 0 [.inr 47, .inl (64 + q), .inl 2, .inr 0] [] M (0, 0) Q
  refine mx_aload_n d_RM_side_0 rfl (by omega) ?_
  refine mx_gl d_RM_side_1 f_RM_79 hO rfl ?_
  refine mx_if_eq 13 d_RM_side_4 (by decide) (fun c4 => ?_) (fun c4 => ?_)
  · skip
    refine mx_iload_n d_RM_side_13 rfl ?_
    refine mx_istore_n d_RM_side_14 (by decide) ?_
    refine mx_iload_n d_RM_side_15 rfl ?_
    refine mx_bipush (64) d_RM_side_16 (by decide +kernel) (by unfold mv_r; omega) ?_
    refine mx_icmp_ge 34 d_RM_side_18 (by decide) (fun c18 => ?_) (fun c18 => ?_)
    · skip
      refine mx_aload_n d_RM_side_34 rfl (by omega) ?_
      refine mx_gl d_RM_side_35 f_RM_19 hO rfl ?_
      refine mx_iconst (4) d_RM_side_38 (by decide +kernel) (by unfold mv_r; omega) ?_
      refine mx_iload_n d_RM_side_39 rfl ?_
      refine mx_bipush (64) d_RM_side_40 (by decide +kernel) (by unfold mv_r; omega) ?_
      refine mx_isub d_RM_side_42 (by unfold mv_r; omega) ?_
      rw [show 64 + q - 64 = q by omega]
      refine mx_imul d_RM_side_43 (by unfold mv_r; omega) ?_
      refine mx_iload_n d_RM_side_44 rfl ?_
      refine mx_iadd d_RM_side_45 (by unfold mv_r; omega) ?_
      try simp only [Int.add_zero]
      refine mx_iald d_RM_side_46 hLin (by omega) (by omega) ?_
      refine mx_ireturn d_RM_side_47 rfl ?_
      first | (rw [show bf_o wy (rf_w L) (rf_h L) q = rf_w L q from if_neg (by omega)] at k; exact k) | (rw [show bf_o wy (rf_w L) (rf_h L) q = rf_h L q from if_pos (by omega)] at k; exact k)
    · skip
      exfalso; omega
  · skip
    refine mx_iload_n d_RM_side_7 rfl ?_
    refine mx_iconst (1) d_RM_side_8 (by decide +kernel) (by unfold mv_r; omega) ?_
    refine mx_ixor (3) d_RM_side_9 (by decide +kernel) (by unfold mv_r; omega) ?_
    refine mx_goto 14 d_RM_side_10 (by decide) ?_
    refine mx_istore_n d_RM_side_14 (by decide) ?_
    refine mx_iload_n d_RM_side_15 rfl ?_
    refine mx_bipush (64) d_RM_side_16 (by decide +kernel) (by unfold mv_r; omega) ?_
    refine mx_icmp_ge 34 d_RM_side_18 (by decide) (fun c18 => ?_) (fun c18 => ?_)
    · skip
      refine mx_aload_n d_RM_side_34 rfl (by omega) ?_
      refine mx_gl d_RM_side_35 f_RM_19 hO rfl ?_
      refine mx_iconst (4) d_RM_side_38 (by decide +kernel) (by unfold mv_r; omega) ?_
      refine mx_iload_n d_RM_side_39 rfl ?_
      refine mx_bipush (64) d_RM_side_40 (by decide +kernel) (by unfold mv_r; omega) ?_
      refine mx_isub d_RM_side_42 (by unfold mv_r; omega) ?_
      rw [show 64 + q - 64 = q by omega]
      refine mx_imul d_RM_side_43 (by unfold mv_r; omega) ?_
      refine mx_iload_n d_RM_side_44 rfl ?_
      refine mx_iadd d_RM_side_45 (by unfold mv_r; omega) ?_
      try simp only [Int.add_zero]
      refine mx_iald d_RM_side_46 hLin (by omega) (by omega) ?_
      refine mx_ireturn d_RM_side_47 rfl ?_
      first | (rw [show bf_o wy (rf_w L) (rf_h L) q = rf_w L q from if_neg (by omega)] at k; exact k) | (rw [show bf_o wy (rf_w L) (rf_h L) q = rf_h L q from if_pos (by omega)] at k; exact k)
    · skip
      exfalso; omega
theorem rf_sl3 {Q : List mv_V → mv_M → Prop} {M : mv_M} {co wi ta bo pa wy lc fo tu bl kl se ow : Int} (hO : rf_O M co wi ta bo pa wy lc fo tu bl kl se ow) (hwy : wy = 0 ∨ wy = 1) {L : Int → Int} (hLin : M.2 51 = .inl (256, L)) {q : Int} (q0 : 0 ≤ q) (q1 : q < 64) (k : Q [.inl (bf_o wy (rf_h L) (rf_w L) q)] M) : mv_J md_RM_side [.inr 47, .inl (64 + q), .inl 3] M Q := by
  refine mv_enter (by decide +kernel) (Nat.le_of_ble_eq_true rfl) ?_
  show mv_W md_RM_side 0 [.inr 47, .inl (64 + q), .inl 3, .inr 0] [] M (0, 0) Q
  refine mx_aload_n d_RM_side_0 rfl (by omega) ?_
  refine mx_gl d_RM_side_1 f_RM_79 hO rfl ?_
  refine mx_if_eq 13 d_RM_side_4 (by decide) (fun c4 => ?_) (fun c4 => ?_)
  · skip
    refine mx_iload_n d_RM_side_13 rfl ?_
    refine mx_istore_n d_RM_side_14 (by decide) ?_
    refine mx_iload_n d_RM_side_15 rfl ?_
    refine mx_bipush (64) d_RM_side_16 (by decide +kernel) (by unfold mv_r; omega) ?_
    refine mx_icmp_ge 34 d_RM_side_18 (by decide) (fun c18 => ?_) (fun c18 => ?_)
    · skip
      refine mx_aload_n d_RM_side_34 rfl (by omega) ?_
      refine mx_gl d_RM_side_35 f_RM_19 hO rfl ?_
      refine mx_iconst (4) d_RM_side_38 (by decide +kernel) (by unfold mv_r; omega) ?_
      refine mx_iload_n d_RM_side_39 rfl ?_
      refine mx_bipush (64) d_RM_side_40 (by decide +kernel) (by unfold mv_r; omega) ?_
      refine mx_isub d_RM_side_42 (by unfold mv_r; omega) ?_
      rw [show 64 + q - 64 = q by omega]
      refine mx_imul d_RM_side_43 (by unfold mv_r; omega) ?_
      refine mx_iload_n d_RM_side_44 rfl ?_
      refine mx_iadd d_RM_side_45 (by unfold mv_r; omega) ?_
      try simp only [Int.add_zero]
      refine mx_iald d_RM_side_46 hLin (by omega) (by omega) ?_
      refine mx_ireturn d_RM_side_47 rfl ?_
      first | (rw [show bf_o wy (rf_h L) (rf_w L) q = rf_h L q from if_neg (by omega)] at k; exact k) | (rw [show bf_o wy (rf_h L) (rf_w L) q = rf_w L q from if_pos (by omega)] at k; exact k)
    · skip
      exfalso; omega
  · skip
    refine mx_iload_n d_RM_side_7 rfl ?_
    refine mx_iconst (1) d_RM_side_8 (by decide +kernel) (by unfold mv_r; omega) ?_
    refine mx_ixor (2) d_RM_side_9 (by decide +kernel) (by unfold mv_r; omega) ?_
    refine mx_goto 14 d_RM_side_10 (by decide) ?_
    refine mx_istore_n d_RM_side_14 (by decide) ?_
    refine mx_iload_n d_RM_side_15 rfl ?_
    refine mx_bipush (64) d_RM_side_16 (by decide +kernel) (by unfold mv_r; omega) ?_
    refine mx_icmp_ge 34 d_RM_side_18 (by decide) (fun c18 => ?_) (fun c18 => ?_)
    · skip
      refine mx_aload_n d_RM_side_34 rfl (by omega) ?_
      refine mx_gl d_RM_side_35 f_RM_19 hO rfl ?_
      refine mx_iconst (4) d_RM_side_38 (by decide +kernel) (by unfold mv_r; omega) ?_
      refine mx_iload_n d_RM_side_39 rfl ?_
      refine mx_bipush (64) d_RM_side_40 (by decide +kernel) (by unfold mv_r; omega) ?_
      refine mx_isub d_RM_side_42 (by unfold mv_r; omega) ?_
      rw [show 64 + q - 64 = q by omega]
      refine mx_imul d_RM_side_43 (by unfold mv_r; omega) ?_
      refine mx_iload_n d_RM_side_44 rfl ?_
      refine mx_iadd d_RM_side_45 (by unfold mv_r; omega) ?_
      try simp only [Int.add_zero]
      refine mx_iald d_RM_side_46 hLin (by omega) (by omega) ?_
      refine mx_ireturn d_RM_side_47 rfl ?_
      first | (rw [show bf_o wy (rf_h L) (rf_w L) q = rf_h L q from if_neg (by omega)] at k; exact k) | (rw [show bf_o wy (rf_h L) (rf_w L) q = rf_w L q from if_pos (by omega)] at k; exact k)
    · skip
      exfalso; omega
theorem rf_left_l {Q : List mv_V → mv_M → Prop} {M : mv_M} {co wi ta bo pa wy lc fo tu bl kl se ow : Int} (hO : rf_O M co wi ta bo pa wy lc fo tu bl kl se ow) (hwy : wy = 0 ∨ wy = 1) {L : Int → Int} (hLin : M.2 51 = .inl (256, L)) {q : Int} (q0 : 0 ≤ q) (q1 : q < 64) (k : Q [.inl (bf_o wy (rf_l L) (rf_u L) q)] M) : mv_J md_RM_left [.inr 47, .inl (64 + q)] M Q := by
  refine mv_enter (by decide +kernel) (Nat.le_of_ble_eq_true rfl) ?_
  show mv_W md_RM_left 0 [.inr 47, .inl (64 + q)] [] M (0, 0) Q
  refine mx_aload_n d_RM_left_0 rfl (by omega) ?_
  refine mx_iload_n d_RM_left_1 rfl ?_
  refine mx_iconst (0) d_RM_left_2 (by decide +kernel) (by unfold mv_r; omega) ?_
  refine mx_cV2 d_RM_left_3 c_RM_83 hO (by decide) (Nat.le_of_ble_eq_true rfl) ?_
  refine rf_sl0 hO hwy hLin q0 q1 ?_
  refine mx_ireturn d_RM_left_6 rfl ?_
  exact k
theorem rf_upper_l {Q : List mv_V → mv_M → Prop} {M : mv_M} {co wi ta bo pa wy lc fo tu bl kl se ow : Int} (hO : rf_O M co wi ta bo pa wy lc fo tu bl kl se ow) (hwy : wy = 0 ∨ wy = 1) {L : Int → Int} (hLin : M.2 51 = .inl (256, L)) {q : Int} (q0 : 0 ≤ q) (q1 : q < 64) (k : Q [.inl (bf_o wy (rf_u L) (rf_l L) q)] M) : mv_J md_RM_upper [.inr 47, .inl (64 + q)] M Q := by
  refine mv_enter (by decide +kernel) (Nat.le_of_ble_eq_true rfl) ?_
  show mv_W md_RM_upper 0 [.inr 47, .inl (64 + q)] [] M (0, 0) Q
  refine mx_aload_n d_RM_upper_0 rfl (by omega) ?_
  refine mx_iload_n d_RM_upper_1 rfl ?_
  refine mx_iconst (1) d_RM_upper_2 (by decide +kernel) (by unfold mv_r; omega) ?_
  refine mx_cV2 d_RM_upper_3 c_RM_83 hO (by decide) (Nat.le_of_ble_eq_true rfl) ?_
  refine rf_sl1 hO hwy hLin q0 q1 ?_
  refine mx_ireturn d_RM_upper_6 rfl ?_
  exact k
theorem rf_high_l {Q : List mv_V → mv_M → Prop} {M : mv_M} {co wi ta bo pa wy lc fo tu bl kl se ow : Int} (hO : rf_O M co wi ta bo pa wy lc fo tu bl kl se ow) (hwy : wy = 0 ∨ wy = 1) {L : Int → Int} (hLin : M.2 51 = .inl (256, L)) {q : Int} (q0 : 0 ≤ q) (q1 : q < 64) (k : Q [.inl (bf_o wy (rf_d L) (rf_r L) q - bf_o wy (rf_u L) (rf_l L) q)] M) : mv_J md_RM_high [.inr 47, .inl (64 + q)] M Q := by
  refine mv_enter (by decide +kernel) (Nat.le_of_ble_eq_true rfl) ?_
  show mv_W md_RM_high 0 [.inr 47, .inl (64 + q)] [] M (0, 0) Q
  refine mx_aload_n d_RM_high_0 rfl (by omega) ?_
  refine mx_iload_n d_RM_high_1 rfl ?_
  refine mx_iconst (3) d_RM_high_2 (by decide +kernel) (by unfold mv_r; omega) ?_
  refine mx_cV2 d_RM_high_3 c_RM_83 hO (by decide) (Nat.le_of_ble_eq_true rfl) ?_
  refine rf_sl3 hO hwy hLin q0 q1 ?_
  refine mx_ireturn d_RM_high_6 rfl ?_
  rw [rf_oh]
  exact k
theorem rf_right_l {Q : List mv_V → mv_M → Prop} {M : mv_M} {co wi ta bo pa wy lc fo tu bl kl se ow : Int} (hO : rf_O M co wi ta bo pa wy lc fo tu bl kl se ow) (hwy : wy = 0 ∨ wy = 1) {L : Int → Int} (hLin : M.2 51 = .inl (256, L)) {q : Int} (q0 : 0 ≤ q) (q1 : q < 64) {cnt : Int} (hok : rf_ok cnt L) (q2 : q < cnt) (k : Q [.inl (bf_o wy (rf_r L) (rf_d L) q)] M) : mv_J md_RM_right [.inr 47, .inl (64 + q)] M Q := by
  refine mv_enter (by decide +kernel) (Nat.le_of_ble_eq_true rfl) ?_
  show mv_W md_RM_right 0 [.inr 47, .inl (64 + q)] [] M (0, 0) Q
  have hbo := bf_ob hok q0 q2 wy
  have hr1 := rf_or (t := wy) (A := L) (q := q)
  have hr2 := rf_od (t := wy) (A := L) (q := q)
  refine mx_aload_n d_RM_right_0 rfl (by omega) ?_
  refine mx_iload_n d_RM_right_1 rfl ?_
  refine mx_iconst (0) d_RM_right_2 (by decide +kernel) (by unfold mv_r; omega) ?_
  refine mx_cV2 d_RM_right_3 c_RM_83 hO (by decide) (Nat.le_of_ble_eq_true rfl) ?_
  refine rf_sl0 hO hwy hLin q0 q1 ?_
  refine mx_aload_n d_RM_right_6 rfl (by omega) ?_
  refine mx_iload_n d_RM_right_7 rfl ?_
  refine mx_iconst (2) d_RM_right_8 (by decide +kernel) (by unfold mv_r; omega) ?_
  refine mx_cV2 d_RM_right_9 c_RM_83 hO (by decide) (Nat.le_of_ble_eq_true rfl) ?_
  refine rf_sl2 hO hwy hLin q0 q1 ?_
  refine mx_iadd d_RM_right_12 (by unfold mv_r; omega) ?_
  refine mx_ireturn d_RM_right_13 rfl ?_
  rw [rf_or]
  exact k
theorem rf_lower_l {Q : List mv_V → mv_M → Prop} {M : mv_M} {co wi ta bo pa wy lc fo tu bl kl se ow : Int} (hO : rf_O M co wi ta bo pa wy lc fo tu bl kl se ow) (hwy : wy = 0 ∨ wy = 1) {L : Int → Int} (hLin : M.2 51 = .inl (256, L)) {q : Int} (q0 : 0 ≤ q) (q1 : q < 64) {cnt : Int} (hok : rf_ok cnt L) (q2 : q < cnt) (k : Q [.inl (bf_o wy (rf_d L) (rf_r L) q)] M) : mv_J md_RM_lower [.inr 47, .inl (64 + q)] M Q := by
  refine mv_enter (by decide +kernel) (Nat.le_of_ble_eq_true rfl) ?_
  show mv_W md_RM_lower 0 [.inr 47, .inl (64 + q)] [] M (0, 0) Q
  have hbo := bf_ob hok q0 q2 wy
  have hr1 := rf_or (t := wy) (A := L) (q := q)
  have hr2 := rf_od (t := wy) (A := L) (q := q)
  refine mx_aload_n d_RM_lower_0 rfl (by omega) ?_
  refine mx_iload_n d_RM_lower_1 rfl ?_
  refine mx_iconst (1) d_RM_lower_2 (by decide +kernel) (by unfold mv_r; omega) ?_
  refine mx_cV2 d_RM_lower_3 c_RM_83 hO (by decide) (Nat.le_of_ble_eq_true rfl) ?_
  refine rf_sl1 hO hwy hLin q0 q1 ?_
  refine mx_aload_n d_RM_lower_6 rfl (by omega) ?_
  refine mx_iload_n d_RM_lower_7 rfl ?_
  refine mx_iconst (3) d_RM_lower_8 (by decide +kernel) (by unfold mv_r; omega) ?_
  refine mx_cV2 d_RM_lower_9 c_RM_83 hO (by decide) (Nat.le_of_ble_eq_true rfl) ?_
  refine rf_sl3 hO hwy hLin q0 q1 ?_
  refine mx_iadd d_RM_lower_12 (by unfold mv_r; omega) ?_
  refine mx_ireturn d_RM_lower_13 rfl ?_
  rw [rf_od]
  exact k
theorem rf_areBoxesNear {Q : List mv_V → mv_M → Prop} {M : mv_M} {co wi ta bo pa wy lc fo tu bl kl se ow : Int} (hO : rf_O M co wi ta bo pa wy lc fo tu bl kl se ow) (hwy : wy = 0 ∨ wy = 1) {B : Int → Int} (hBox : M.2 48 = .inl (256, B)) {cnt : Int} (hcn : cnt ≤ 64) (hok : rf_ok cnt B) {a b : Int} (a0 : 0 ≤ a) (a2 : a < cnt) (b0 : 0 ≤ b) (b2 : b < cnt) (k1 : bf_nb wy (rf_l B) (rf_u B) (rf_r B) (rf_d B) a b → Q [.inl 1] M) (k0 : ¬ bf_nb wy (rf_l B) (rf_u B) (rf_r B) (rf_d B) a b → Q [.inl 0] M) : mv_J md_RM_areBoxesNear [.inr 47, .inl a, .inl b] M Q := by
  refine mv_enter (by decide +kernel) (Nat.le_of_ble_eq_true rfl) ?_
  show mv_W md_RM_areBoxesNear 0 [.inr 47, .inl a, .inl b, .inr 0, .inr 0] [] M (0, 0) Q
  have a1 : a < 64 := by omega
  have b1 : b < 64 := by omega
  have hba := bf_ob hok a0 a2 wy
  have hbb := bf_ob hok b0 b2 wy
  refine mx_aload_n d_RM_areBoxesNear_0 rfl (by omega) ?_
  refine mx_iload_n d_RM_areBoxesNear_1 rfl ?_
  refine mx_cV1 d_RM_areBoxesNear_2 c_RM_87 hO (by decide) (Nat.le_of_ble_eq_true rfl) ?_
  refine rf_lower_b hO hwy hBox a0 a1 hok a2 ?_
  refine mx_aload_n d_RM_areBoxesNear_5 rfl (by omega) ?_
  refine mx_iload_n d_RM_areBoxesNear_6 rfl ?_
  refine mx_cV1 d_RM_areBoxesNear_7 c_RM_87 hO (by decide) (Nat.le_of_ble_eq_true rfl) ?_
  refine rf_lower_b hO hwy hBox b0 b1 hok b2 ?_
  refine mx_cS2 d_RM_areBoxesNear_10 c_RM_91 (by decide) (Nat.le_of_ble_eq_true rfl) ?_
  refine rf_least ?_
  refine mx_aload_n d_RM_areBoxesNear_13 rfl (by omega) ?_
  refine mx_iload_n d_RM_areBoxesNear_14 rfl ?_
  refine mx_cV1 d_RM_areBoxesNear_15 c_RM_94 hO (by decide) (Nat.le_of_ble_eq_true rfl) ?_
  refine rf_upper_b hO hwy hBox a0 a1 ?_
  refine mx_aload_n d_RM_areBoxesNear_18 rfl (by omega) ?_
  refine mx_iload_n d_RM_areBoxesNear_19 rfl ?_
  refine mx_cV1 d_RM_areBoxesNear_20 c_RM_94 hO (by decide) (Nat.le_of_ble_eq_true rfl) ?_
  refine rf_upper_b hO hwy hBox b0 b1 ?_
  refine mx_cS2 d_RM_areBoxesNear_23 c_RM_97 (by decide) (Nat.le_of_ble_eq_true rfl) ?_
  refine rf_most ?_
  refine mx_isub d_RM_areBoxesNear_26 (by unfold mv_r; omega) ?_
  refine mx_istore_n d_RM_areBoxesNear_27 (by decide) ?_
  refine mx_aload_n d_RM_areBoxesNear_28 rfl (by omega) ?_
  refine mx_iload_n d_RM_areBoxesNear_29 rfl ?_
  refine mx_cV1 d_RM_areBoxesNear_30 c_RM_100 hO (by decide) (Nat.le_of_ble_eq_true rfl) ?_
  refine rf_left_b hO hwy hBox a0 a1 ?_
  refine mx_aload_n d_RM_areBoxesNear_33 rfl (by omega) ?_
  refine mx_iload_n d_RM_areBoxesNear_34 rfl ?_
  refine mx_cV1 d_RM_areBoxesNear_35 c_RM_100 hO (by decide) (Nat.le_of_ble_eq_true rfl) ?_
  refine rf_left_b hO hwy hBox b0 b1 ?_
  refine mx_cS2 d_RM_areBoxesNear_38 c_RM_97 (by decide) (Nat.le_of_ble_eq_true rfl) ?_
  refine rf_most ?_
  refine mx_aload_n d_RM_areBoxesNear_41 rfl (by omega) ?_
  refine mx_iload_n d_RM_areBoxesNear_42 rfl ?_
  refine mx_cV1 d_RM_areBoxesNear_43 c_RM_103 hO (by decide) (Nat.le_of_ble_eq_true rfl) ?_
  refine rf_right_b hO hwy hBox a0 a1 hok a2 ?_
  refine mx_aload_n d_RM_areBoxesNear_46 rfl (by omega) ?_
  refine mx_iload_n d_RM_areBoxesNear_47 rfl ?_
  refine mx_cV1 d_RM_areBoxesNear_48 c_RM_103 hO (by decide) (Nat.le_of_ble_eq_true rfl) ?_
  refine rf_right_b hO hwy hBox b0 b1 hok b2 ?_
  refine mx_cS2 d_RM_areBoxesNear_51 c_RM_91 (by decide) (Nat.le_of_ble_eq_true rfl) ?_
  refine rf_least ?_
  refine mx_isub d_RM_areBoxesNear_54 (by unfold mv_r; omega) ?_
  refine mx_istore d_RM_areBoxesNear_55 (by decide) ?_
  refine mx_iconst (2) d_RM_areBoxesNear_57 (by decide +kernel) (by unfold mv_r; omega) ?_
  refine mx_iload_n d_RM_areBoxesNear_58 rfl ?_
  refine mx_imul d_RM_areBoxesNear_59 (by unfold mv_r; omega) ?_
  refine mx_aload_n d_RM_areBoxesNear_60 rfl (by omega) ?_
  refine mx_iload_n d_RM_areBoxesNear_61 rfl ?_
  refine mx_cV1 d_RM_areBoxesNear_62 c_RM_106 hO (by decide) (Nat.le_of_ble_eq_true rfl) ?_
  refine rf_high_b hO hwy hBox a0 a1 ?_
  refine mx_aload_n d_RM_areBoxesNear_65 rfl (by omega) ?_
  refine mx_iload_n d_RM_areBoxesNear_66 rfl ?_
  refine mx_cV1 d_RM_areBoxesNear_67 c_RM_106 hO (by decide) (Nat.le_of_ble_eq_true rfl) ?_
  refine rf_high_b hO hwy hBox b0 b1 ?_
  refine mx_cS2 d_RM_areBoxesNear_70 c_RM_91 (by decide) (Nat.le_of_ble_eq_true rfl) ?_
  refine rf_least ?_
  refine mx_icmp_lt 102 d_RM_areBoxesNear_73 (by decide) (fun c73 => ?_) (fun c73 => ?_)
  · skip
    refine mx_iconst (0) d_RM_areBoxesNear_102 (by decide +kernel) (by unfold mv_r; omega) ?_
    refine mx_zreturn d_RM_areBoxesNear_103 rfl (by omega) ?_
    first | exact k1 ⟨by omega, by omega⟩ | exact k0 (fun h => by have q1 := h.1; have q2 := h.2; omega)
  · skip
    refine mx_iconst (2) d_RM_areBoxesNear_76 (by decide +kernel) (by unfold mv_r; omega) ?_
    refine mx_iload d_RM_areBoxesNear_77 rfl ?_
    refine mx_imul d_RM_areBoxesNear_79 (by unfold mv_r; omega) ?_
    refine mx_iconst (3) d_RM_areBoxesNear_80 (by decide +kernel) (by unfold mv_r; omega) ?_
    refine mx_aload_n d_RM_areBoxesNear_81 rfl (by omega) ?_
    refine mx_iload_n d_RM_areBoxesNear_82 rfl ?_
    refine mx_cV1 d_RM_areBoxesNear_83 c_RM_106 hO (by decide) (Nat.le_of_ble_eq_true rfl) ?_
    refine rf_high_b hO hwy hBox a0 a1 ?_
    refine mx_aload_n d_RM_areBoxesNear_86 rfl (by omega) ?_
    refine mx_iload_n d_RM_areBoxesNear_87 rfl ?_
    refine mx_cV1 d_RM_areBoxesNear_88 c_RM_106 hO (by decide) (Nat.le_of_ble_eq_true rfl) ?_
    refine rf_high_b hO hwy hBox b0 b1 ?_
    refine mx_cS2 d_RM_areBoxesNear_91 c_RM_97 (by decide) (Nat.le_of_ble_eq_true rfl) ?_
    refine rf_most ?_
    refine mx_imul d_RM_areBoxesNear_94 (by unfold mv_r; omega) ?_
    refine mx_icmp_gt 102 d_RM_areBoxesNear_95 (by decide) (fun c95 => ?_) (fun c95 => ?_)
    · skip
      refine mx_iconst (0) d_RM_areBoxesNear_102 (by decide +kernel) (by unfold mv_r; omega) ?_
      refine mx_zreturn d_RM_areBoxesNear_103 rfl (by omega) ?_
      first | exact k1 ⟨by omega, by omega⟩ | exact k0 (fun h => by have q1 := h.1; have q2 := h.2; omega)
    · skip
      refine mx_iconst (1) d_RM_areBoxesNear_98 (by decide +kernel) (by unfold mv_r; omega) ?_
      refine mx_goto 103 d_RM_areBoxesNear_99 (by decide) ?_
      refine mx_zreturn d_RM_areBoxesNear_103 rfl (by omega) ?_
      first | exact k1 ⟨by omega, by omega⟩ | exact k0 (fun h => by have q1 := h.1; have q2 := h.2; omega)
theorem rf_areLinesNear {Q : List mv_V → mv_M → Prop} {M : mv_M} {co wi ta bo pa wy lc fo tu bl kl se ow : Int} (hO : rf_O M co wi ta bo pa wy lc fo tu bl kl se ow) (hwy : wy = 0 ∨ wy = 1) {L : Int → Int} (hLin : M.2 51 = .inl (256, L)) {cnt : Int} (hcn : cnt ≤ 64) (hok : rf_ok cnt L) {a b : Int} (a0 : 0 ≤ a) (a2 : a < cnt) (b0 : 0 ≤ b) (b2 : b < cnt) (k1 : bf_nl wy (rf_l L) (rf_u L) (rf_r L) (rf_d L) a b → Q [.inl 1] M) (k0 : ¬ bf_nl wy (rf_l L) (rf_u L) (rf_r L) (rf_d L) a b → Q [.inl 0] M) : mv_J md_RM_areLinesNear [.inr 47, .inl (64 + a), .inl (64 + b)] M Q := by
  refine mv_enter (by decide +kernel) (Nat.le_of_ble_eq_true rfl) ?_
  show mv_W md_RM_areLinesNear 0 [.inr 47, .inl (64 + a), .inl (64 + b), .inr 0, .inr 0] [] M (0, 0) Q
  have a1 : a < 64 := by omega
  have b1 : b < 64 := by omega
  have hba := bf_ob hok a0 a2 wy
  have hbb := bf_ob hok b0 b2 wy
  refine mx_aload_n d_RM_areLinesNear_0 rfl (by omega) ?_
  refine mx_iload_n d_RM_areLinesNear_1 rfl ?_
  refine mx_cV1 d_RM_areLinesNear_2 c_RM_100 hO (by decide) (Nat.le_of_ble_eq_true rfl) ?_
  refine rf_left_l hO hwy hLin a0 a1 ?_
  refine mx_aload_n d_RM_areLinesNear_5 rfl (by omega) ?_
  refine mx_iload_n d_RM_areLinesNear_6 rfl ?_
  refine mx_cV1 d_RM_areLinesNear_7 c_RM_100 hO (by decide) (Nat.le_of_ble_eq_true rfl) ?_
  refine rf_left_l hO hwy hLin b0 b1 ?_
  refine mx_isub d_RM_areLinesNear_10 (by unfold mv_r; omega) ?_
  refine mx_istore_n d_RM_areLinesNear_11 (by decide) ?_
  refine mx_aload_n d_RM_areLinesNear_12 rfl (by omega) ?_
  refine mx_iload_n d_RM_areLinesNear_13 rfl ?_
  refine mx_cV1 d_RM_areLinesNear_14 c_RM_94 hO (by decide) (Nat.le_of_ble_eq_true rfl) ?_
  refine rf_upper_l hO hwy hLin a0 a1 ?_
  refine mx_aload_n d_RM_areLinesNear_17 rfl (by omega) ?_
  refine mx_iload_n d_RM_areLinesNear_18 rfl ?_
  refine mx_cV1 d_RM_areLinesNear_19 c_RM_94 hO (by decide) (Nat.le_of_ble_eq_true rfl) ?_
  refine rf_upper_l hO hwy hLin b0 b1 ?_
  refine mx_cS2 d_RM_areLinesNear_22 c_RM_97 (by decide) (Nat.le_of_ble_eq_true rfl) ?_
  refine rf_most ?_
  refine mx_aload_n d_RM_areLinesNear_25 rfl (by omega) ?_
  refine mx_iload_n d_RM_areLinesNear_26 rfl ?_
  refine mx_cV1 d_RM_areLinesNear_27 c_RM_87 hO (by decide) (Nat.le_of_ble_eq_true rfl) ?_
  refine rf_lower_l hO hwy hLin a0 a1 hok a2 ?_
  refine mx_aload_n d_RM_areLinesNear_30 rfl (by omega) ?_
  refine mx_iload_n d_RM_areLinesNear_31 rfl ?_
  refine mx_cV1 d_RM_areLinesNear_32 c_RM_87 hO (by decide) (Nat.le_of_ble_eq_true rfl) ?_
  refine rf_lower_l hO hwy hLin b0 b1 hok b2 ?_
  refine mx_cS2 d_RM_areLinesNear_35 c_RM_91 (by decide) (Nat.le_of_ble_eq_true rfl) ?_
  refine rf_least ?_
  refine mx_isub d_RM_areLinesNear_38 (by unfold mv_r; omega) ?_
  refine mx_istore d_RM_areLinesNear_39 (by decide) ?_
  refine mx_iload_n d_RM_areLinesNear_41 rfl ?_
  refine mx_if_ge 50 d_RM_areLinesNear_42 (by decide) (fun c42 => ?_) (fun c42 => ?_)
  · skip
    refine mx_iload_n d_RM_areLinesNear_50 rfl ?_
    refine mx_aload_n d_RM_areLinesNear_51 rfl (by omega) ?_
    refine mx_iload_n d_RM_areLinesNear_52 rfl ?_
    refine mx_cV1 d_RM_areLinesNear_53 c_RM_106 hO (by decide) (Nat.le_of_ble_eq_true rfl) ?_
    refine rf_high_l hO hwy hLin a0 a1 ?_
    refine mx_aload_n d_RM_areLinesNear_56 rfl (by omega) ?_
    refine mx_iload_n d_RM_areLinesNear_57 rfl ?_
    refine mx_cV1 d_RM_areLinesNear_58 c_RM_106 hO (by decide) (Nat.le_of_ble_eq_true rfl) ?_
    refine rf_high_l hO hwy hLin b0 b1 ?_
    refine mx_cS2 d_RM_areLinesNear_61 c_RM_97 (by decide) (Nat.le_of_ble_eq_true rfl) ?_
    refine rf_most ?_
    refine mx_icmp_gt 91 d_RM_areLinesNear_64 (by decide) (fun c64 => ?_) (fun c64 => ?_)
    · skip
      refine mx_iconst (0) d_RM_areLinesNear_91 (by decide +kernel) (by unfold mv_r; omega) ?_
      refine mx_zreturn d_RM_areLinesNear_92 rfl (by omega) ?_
      first | exact k1 ⟨by omega, by omega⟩ | exact k0 (fun h => by have q1 := h.1; have q2 := h.2; omega)
    · skip
      refine mx_iload d_RM_areLinesNear_67 rfl ?_
      refine mx_iconst (2) d_RM_areLinesNear_69 (by decide +kernel) (by unfold mv_r; omega) ?_
      refine mx_aload_n d_RM_areLinesNear_70 rfl (by omega) ?_
      refine mx_iload_n d_RM_areLinesNear_71 rfl ?_
      refine mx_cV1 d_RM_areLinesNear_72 c_RM_106 hO (by decide) (Nat.le_of_ble_eq_true rfl) ?_
      refine rf_high_l hO hwy hLin a0 a1 ?_
      refine mx_aload_n d_RM_areLinesNear_75 rfl (by omega) ?_
      refine mx_iload_n d_RM_areLinesNear_76 rfl ?_
      refine mx_cV1 d_RM_areLinesNear_77 c_RM_106 hO (by decide) (Nat.le_of_ble_eq_true rfl) ?_
      refine rf_high_l hO hwy hLin b0 b1 ?_
      refine mx_cS2 d_RM_areLinesNear_80 c_RM_91 (by decide) (Nat.le_of_ble_eq_true rfl) ?_
      refine rf_least ?_
      refine mx_imul d_RM_areLinesNear_83 (by unfold mv_r; omega) ?_
      refine mx_icmp_gt 91 d_RM_areLinesNear_84 (by decide) (fun c84 => ?_) (fun c84 => ?_)
      · skip
        refine mx_iconst (0) d_RM_areLinesNear_91 (by decide +kernel) (by unfold mv_r; omega) ?_
        refine mx_zreturn d_RM_areLinesNear_92 rfl (by omega) ?_
        first | exact k1 ⟨by omega, by omega⟩ | exact k0 (fun h => by have q1 := h.1; have q2 := h.2; omega)
      · skip
        refine mx_iconst (1) d_RM_areLinesNear_87 (by decide +kernel) (by unfold mv_r; omega) ?_
        refine mx_goto 92 d_RM_areLinesNear_88 (by decide) ?_
        refine mx_zreturn d_RM_areLinesNear_92 rfl (by omega) ?_
        first | exact k1 ⟨by omega, by omega⟩ | exact k0 (fun h => by have q1 := h.1; have q2 := h.2; omega)
  · skip
    refine mx_iload_n d_RM_areLinesNear_45 rfl ?_
    refine mx_ineg d_RM_areLinesNear_46 (by unfold mv_r; omega) ?_
    refine mx_goto 51 d_RM_areLinesNear_47 (by decide) ?_
    refine mx_aload_n d_RM_areLinesNear_51 rfl (by omega) ?_
    refine mx_iload_n d_RM_areLinesNear_52 rfl ?_
    refine mx_cV1 d_RM_areLinesNear_53 c_RM_106 hO (by decide) (Nat.le_of_ble_eq_true rfl) ?_
    refine rf_high_l hO hwy hLin a0 a1 ?_
    refine mx_aload_n d_RM_areLinesNear_56 rfl (by omega) ?_
    refine mx_iload_n d_RM_areLinesNear_57 rfl ?_
    refine mx_cV1 d_RM_areLinesNear_58 c_RM_106 hO (by decide) (Nat.le_of_ble_eq_true rfl) ?_
    refine rf_high_l hO hwy hLin b0 b1 ?_
    refine mx_cS2 d_RM_areLinesNear_61 c_RM_97 (by decide) (Nat.le_of_ble_eq_true rfl) ?_
    refine rf_most ?_
    refine mx_icmp_gt 91 d_RM_areLinesNear_64 (by decide) (fun c64 => ?_) (fun c64 => ?_)
    · skip
      refine mx_iconst (0) d_RM_areLinesNear_91 (by decide +kernel) (by unfold mv_r; omega) ?_
      refine mx_zreturn d_RM_areLinesNear_92 rfl (by omega) ?_
      first | exact k1 ⟨by omega, by omega⟩ | exact k0 (fun h => by have q1 := h.1; have q2 := h.2; omega)
    · skip
      refine mx_iload d_RM_areLinesNear_67 rfl ?_
      refine mx_iconst (2) d_RM_areLinesNear_69 (by decide +kernel) (by unfold mv_r; omega) ?_
      refine mx_aload_n d_RM_areLinesNear_70 rfl (by omega) ?_
      refine mx_iload_n d_RM_areLinesNear_71 rfl ?_
      refine mx_cV1 d_RM_areLinesNear_72 c_RM_106 hO (by decide) (Nat.le_of_ble_eq_true rfl) ?_
      refine rf_high_l hO hwy hLin a0 a1 ?_
      refine mx_aload_n d_RM_areLinesNear_75 rfl (by omega) ?_
      refine mx_iload_n d_RM_areLinesNear_76 rfl ?_
      refine mx_cV1 d_RM_areLinesNear_77 c_RM_106 hO (by decide) (Nat.le_of_ble_eq_true rfl) ?_
      refine rf_high_l hO hwy hLin b0 b1 ?_
      refine mx_cS2 d_RM_areLinesNear_80 c_RM_91 (by decide) (Nat.le_of_ble_eq_true rfl) ?_
      refine rf_least ?_
      refine mx_imul d_RM_areLinesNear_83 (by unfold mv_r; omega) ?_
      refine mx_icmp_gt 91 d_RM_areLinesNear_84 (by decide) (fun c84 => ?_) (fun c84 => ?_)
      · skip
        refine mx_iconst (0) d_RM_areLinesNear_91 (by decide +kernel) (by unfold mv_r; omega) ?_
        refine mx_zreturn d_RM_areLinesNear_92 rfl (by omega) ?_
        first | exact k1 ⟨by omega, by omega⟩ | exact k0 (fun h => by have q1 := h.1; have q2 := h.2; omega)
      · skip
        refine mx_iconst (1) d_RM_areLinesNear_87 (by decide +kernel) (by unfold mv_r; omega) ?_
        refine mx_goto 92 d_RM_areLinesNear_88 (by decide) ?_
        refine mx_zreturn d_RM_areLinesNear_92 rfl (by omega) ?_
        first | exact k1 ⟨by omega, by omega⟩ | exact k0 (fun h => by have q1 := h.1; have q2 := h.2; omega)
def rf_bef (t : Int) (L : Int → Int) (a b la lb : Int) : Prop := bf_o t (rf_u L) (rf_l L) a < bf_o t (rf_u L) (rf_l L) b ∨ (bf_o t (rf_u L) (rf_l L) a = bf_o t (rf_u L) (rf_l L) b ∧ (bf_o t (rf_l L) (rf_u L) a < bf_o t (rf_l L) (rf_u L) b ∨ (bf_o t (rf_l L) (rf_u L) a = bf_o t (rf_l L) (rf_u L) b ∧ la < lb)))
theorem rf_isBefore {Q : List mv_V → mv_M → Prop} {M : mv_M} {co wi ta bo pa wy lc fo tu bl kl se ow : Int} (hO : rf_O M co wi ta bo pa wy lc fo tu bl kl se ow) (hwy : wy = 0 ∨ wy = 1) {L : Int → Int} (hLin : M.2 51 = .inl (256, L)) {a b la lb : Int} (a0 : 0 ≤ a) (a1 : a < 64) (b0 : 0 ≤ b) (b1 : b < 64) (k1 : rf_bef wy L a b la lb → Q [.inl 1] M) (k0 : ¬ rf_bef wy L a b la lb → Q [.inl 0] M) : mv_J md_RM_isBefore [.inr 47, .inl (64 + a), .inl (64 + b), .inl la, .inl lb] M Q := by
  refine mv_enter (by decide +kernel) (Nat.le_of_ble_eq_true rfl) ?_
  show mv_W md_RM_isBefore 0 [.inr 47, .inl (64 + a), .inl (64 + b), .inl la, .inl lb] [] M (0, 0) Q
  refine mx_aload_n d_RM_isBefore_0 rfl (by omega) ?_
  refine mx_iload_n d_RM_isBefore_1 rfl ?_
  refine mx_cV1 d_RM_isBefore_2 c_RM_94 hO (by decide) (Nat.le_of_ble_eq_true rfl) ?_
  refine rf_upper_l hO hwy hLin a0 a1 ?_
  refine mx_aload_n d_RM_isBefore_5 rfl (by omega) ?_
  refine mx_iload_n d_RM_isBefore_6 rfl ?_
  refine mx_cV1 d_RM_isBefore_7 c_RM_94 hO (by decide) (Nat.le_of_ble_eq_true rfl) ?_
  refine rf_upper_l hO hwy hLin b0 b1 ?_
  refine mx_icmp_eq 32 d_RM_isBefore_10 (by decide) (fun c10 => ?_) (fun c10 => ?_)
  · skip
    refine mx_aload_n d_RM_isBefore_32 rfl (by omega) ?_
    refine mx_iload_n d_RM_isBefore_33 rfl ?_
    refine mx_cV1 d_RM_isBefore_34 c_RM_100 hO (by decide) (Nat.le_of_ble_eq_true rfl) ?_
    refine rf_left_l hO hwy hLin a0 a1 ?_
    refine mx_aload_n d_RM_isBefore_37 rfl (by omega) ?_
    refine mx_iload_n d_RM_isBefore_38 rfl ?_
    refine mx_cV1 d_RM_isBefore_39 c_RM_100 hO (by decide) (Nat.le_of_ble_eq_true rfl) ?_
    refine rf_left_l hO hwy hLin b0 b1 ?_
    refine mx_icmp_eq 66 d_RM_isBefore_42 (by decide) (fun c42 => ?_) (fun c42 => ?_)
    · skip
      refine mx_iload_n d_RM_isBefore_66 rfl ?_
      refine mx_iload d_RM_isBefore_67 rfl ?_
      refine mx_icmp_ge 76 d_RM_isBefore_69 (by decide) (fun c69 => ?_) (fun c69 => ?_)
      · skip
        refine mx_iconst (0) d_RM_isBefore_76 (by decide +kernel) (by unfold mv_r; omega) ?_
        refine mx_zreturn d_RM_isBefore_77 rfl (by omega) ?_
        first | exact k1 (by unfold rf_bef; omega) | exact k0 (by unfold rf_bef; omega)
      · skip
        refine mx_iconst (1) d_RM_isBefore_72 (by decide +kernel) (by unfold mv_r; omega) ?_
        refine mx_goto 77 d_RM_isBefore_73 (by decide) ?_
        refine mx_zreturn d_RM_isBefore_77 rfl (by omega) ?_
        first | exact k1 (by unfold rf_bef; omega) | exact k0 (by unfold rf_bef; omega)
    · skip
      refine mx_aload_n d_RM_isBefore_45 rfl (by omega) ?_
      refine mx_iload_n d_RM_isBefore_46 rfl ?_
      refine mx_cV1 d_RM_isBefore_47 c_RM_100 hO (by decide) (Nat.le_of_ble_eq_true rfl) ?_
      refine rf_left_l hO hwy hLin a0 a1 ?_
      refine mx_aload_n d_RM_isBefore_50 rfl (by omega) ?_
      refine mx_iload_n d_RM_isBefore_51 rfl ?_
      refine mx_cV1 d_RM_isBefore_52 c_RM_100 hO (by decide) (Nat.le_of_ble_eq_true rfl) ?_
      refine rf_left_l hO hwy hLin b0 b1 ?_
      refine mx_icmp_ge 62 d_RM_isBefore_55 (by decide) (fun c55 => ?_) (fun c55 => ?_)
      · skip
        refine mx_iconst (0) d_RM_isBefore_62 (by decide +kernel) (by unfold mv_r; omega) ?_
        refine mx_goto 77 d_RM_isBefore_63 (by decide) ?_
        refine mx_zreturn d_RM_isBefore_77 rfl (by omega) ?_
        first | exact k1 (by unfold rf_bef; omega) | exact k0 (by unfold rf_bef; omega)
      · skip
        refine mx_iconst (1) d_RM_isBefore_58 (by decide +kernel) (by unfold mv_r; omega) ?_
        refine mx_goto 77 d_RM_isBefore_59 (by decide) ?_
        refine mx_zreturn d_RM_isBefore_77 rfl (by omega) ?_
        first | exact k1 (by unfold rf_bef; omega) | exact k0 (by unfold rf_bef; omega)
  · skip
    refine mx_aload_n d_RM_isBefore_13 rfl (by omega) ?_
    refine mx_iload_n d_RM_isBefore_14 rfl ?_
    refine mx_cV1 d_RM_isBefore_15 c_RM_94 hO (by decide) (Nat.le_of_ble_eq_true rfl) ?_
    refine rf_upper_l hO hwy hLin a0 a1 ?_
    refine mx_aload_n d_RM_isBefore_18 rfl (by omega) ?_
    refine mx_iload_n d_RM_isBefore_19 rfl ?_
    refine mx_cV1 d_RM_isBefore_20 c_RM_94 hO (by decide) (Nat.le_of_ble_eq_true rfl) ?_
    refine rf_upper_l hO hwy hLin b0 b1 ?_
    refine mx_icmp_ge 30 d_RM_isBefore_23 (by decide) (fun c23 => ?_) (fun c23 => ?_)
    · skip
      refine mx_iconst (0) d_RM_isBefore_30 (by decide +kernel) (by unfold mv_r; omega) ?_
      refine mx_zreturn d_RM_isBefore_31 rfl (by omega) ?_
      first | exact k1 (by unfold rf_bef; omega) | exact k0 (by unfold rf_bef; omega)
    · skip
      refine mx_iconst (1) d_RM_isBefore_26 (by decide +kernel) (by unfold mv_r; omega) ?_
      refine mx_goto 31 d_RM_isBefore_27 (by decide) ?_
      refine mx_zreturn d_RM_isBefore_31 rfl (by omega) ?_
      first | exact k1 (by unfold rf_bef; omega) | exact k0 (by unfold rf_bef; omega)
end
section
/-! pure rows: labels that become less, round by round -/
theorem pu_ex_in {n : Int} {nb : Int → Int → Prop} : ∀ (d : Nat) (i j : Int) (f : Int → Int), n - j ≤ d → 0 ≤ i → i < j → j ≤ n → pu_lab n (fun a b => (a < i ∨ (a = i ∧ b < j)) ∧ a < b ∧ nb a b) f → ∃ f', pu_lab n (fun a b => (a < i ∨ (a = i ∧ b < n)) ∧ a < b ∧ nb a b) f' := by
  intro d
  induction d with
  | zero =>
    intro i j f h1 h2 h3 h4 h
    rw [show j = n by omega] at h
    exact ⟨f, h⟩
  | succ d ih =>
    intro i j f h1 h2 h3 h4 h
    by_cases hj : j = n
    · rw [hj] at h; exact ⟨f, h⟩
    · by_cases hnb : nb i j
      · exact ih i (j + 1) (pu_join f i j) (by omega) h2 (by omega) (by omega) (pu_lab_next h h2 h3 (by omega) hnb (fun t _ _ => rfl))
      · exact ih i (j + 1) f (by omega) h2 (by omega) (by omega) (pu_lab_not h hnb)
theorem pu_ex {n : Int} (nb : Int → Int → Prop) (n0 : 0 ≤ n) : ∃ F, pu_lab n (fun a b => a < b ∧ nb a b) F := by
  have outer : ∀ (d : Nat) (i : Int) (f : Int → Int), n - i ≤ d → 0 ≤ i → i ≤ n → pu_lab n (fun a b => (a < i ∨ (a = i ∧ b < i + 1)) ∧ a < b ∧ nb a b) f → ∃ F, pu_lab n (fun a b => a < b ∧ nb a b) F := by
    intro d
    induction d with
    | zero =>
      intro i f h1 h2 h3 h
      exact ⟨f, pu_lab_all h (by omega)⟩
    | succ d ih =>
      intro i f h1 h2 h3 h
      by_cases hi : i = n
      · exact ⟨f, pu_lab_all h (by omega)⟩
      · obtain ⟨f', h'⟩ := pu_ex_in (n - (i + 1)).toNat i (i + 1) f (by omega) h2 (by omega) (by omega) h
        exact ih (i + 1) f' (by omega) (by omega) (by omega) (pu_lab_row h' (Int.le_refl n))
  exact outer n.toNat 0 (fun i => i) (by omega) (by omega) n0 (pu_lab_begin (fun j _ _ => rfl))
theorem pu_sym {n : Int} {nb : Int → Int → Prop} {F : Int → Int} (h : pu_lab n (fun a b => a < b ∧ nb a b) F) (hs : ∀ a b, nb a b → nb b a) {a b : Int} (a0 : 0 ≤ a) (a1 : a < n) (b0 : 0 ≤ b) (b1 : b < n) (hnb : nb a b) : F a = F b := by
  rcases Int.lt_trichotomy a b with q | q | q
  · exact h.2.1 a b a0 a1 b0 b1 ⟨q, hnb⟩
  · rw [q]
  · exact (h.2.1 b a b0 b1 a0 a1 ⟨q, hs a b hnb⟩).symm
def pu_rx (n : Int) (F f : Int → Int) : Prop := ∀ a, 0 ≤ a → a < n → F a ≤ f a ∧ f a ≤ a
def pu_rnd (n : Int) (nb : Int → Int → Prop) (F : Int → Int) (S0 : Int → Prop) (a b : Int) (f : Int → Int) : Prop :=
  pu_rx n F f ∧ (∀ x, 0 ≤ x → x < n → S0 x → f x = F x) ∧ ∀ x y, 0 ≤ x → x < n → 0 ≤ y → y < n → (x < a ∨ (x = a ∧ y < b)) → nb x y → S0 y → f x = F x
theorem pu_rnd0 {n : Int} {nb : Int → Int → Prop} {F f : Int → Int} (h : pu_rx n F f) : pu_rnd n nb F (fun x => f x = F x) 0 0 f :=
  ⟨h, fun x _ _ e => e, fun x y _ _ _ _ q => by omega⟩
theorem pu_rnd_row {n : Int} {nb : Int → Int → Prop} {F f : Int → Int} {S0 : Int → Prop} {a b : Int} (h : pu_rnd n nb F S0 a b f) (hb : n ≤ b) : pu_rnd n nb F S0 (a + 1) 0 f :=
  ⟨h.1, h.2.1, fun x y x0 x1 y0 y1 q => h.2.2 x y x0 x1 y0 y1 (by omega)⟩
theorem pu_rnd_s {n : Int} {nb : Int → Int → Prop} {F f : Int → Int} {S0 : Int → Prop} {a b v : Int} (hF : pu_lab n (fun a b => a < b ∧ nb a b) F) (hs : ∀ a b, nb a b → nb b a) (h : pu_rnd n nb F S0 a b f) (a0 : 0 ≤ a) (a1 : a < n) (b0 : 0 ≤ b) (b1 : b < n)
    (hv : (v = f b ∧ f b < f a ∧ nb a b) ∨ (v = f a ∧ ¬ (f b < f a ∧ nb a b))) : pu_rnd n nb F S0 a (b + 1) (mv_s f a v) := by
  obtain ⟨h1, h2, h3⟩ := h
  have ha := h1 a a0 a1
  have hb := h1 b b0 b1
  have hstay : f a = F a → v = F a := fun e => by
    rcases hv with ⟨e1, e2, e3⟩ | ⟨e1, e2⟩
    · have := pu_sym hF hs a0 a1 b0 b1 e3
      omega
    · omega
  refine ⟨fun x x0 x1 => ?_, fun x x0 x1 hx => ?_, fun x y x0 x1 y0 y1 hxy hn hy => ?_⟩
  · by_cases hx : x = a
    · subst hx
      rw [mv_ss]
      rcases hv with ⟨e1, e2, e3⟩ | ⟨e1, e2⟩
      · have := pu_sym hF hs x0 x1 b0 b1 e3
        omega
      · omega
    · rw [mv_sn hx]; exact h1 x x0 x1
  · by_cases hxa : x = a
    · subst hxa
      rw [mv_ss]; exact hstay (h2 x x0 x1 hx)
    · rw [mv_sn hxa]; exact h2 x x0 x1 hx
  · by_cases hxa : x = a
    · subst hxa
      rw [mv_ss]
      by_cases hyb : y = b
      · subst hyb
        have e1 := h2 y y0 y1 hy
        have e2 := pu_sym hF hs x0 x1 y0 y1 hn
        rcases hv with ⟨e3, e4, e5⟩ | ⟨e3, e4⟩
        · omega
        · have : ¬ f y < f x := fun q => e4 ⟨q, hn⟩
          omega
      · exact hstay (h3 x y x0 x1 y0 y1 (by omega) hn hy)
    · rw [mv_sn hxa]; exact h3 x y x0 x1 y0 y1 (by omega) hn hy
theorem pu_cnt_sub {P P' : Int → Bool} {z : Int} (h0 : 0 ≤ z) (hz : P z = true) (hz' : P' z = false) : ∀ {n : Nat}, z < n → (∀ i : Int, 0 ≤ i → i < n → P' i = true → P i = true) → pu_cnt P' n ≤ pu_cnt P n - 1 := by
  have le : ∀ {n : Nat}, (∀ i : Int, 0 ≤ i → i < n → P' i = true → P i = true) → pu_cnt P' n ≤ pu_cnt P n := by
    intro n
    induction n with
    | zero => intro _; exact Int.le_refl _
    | succ n ih =>
      intro h
      have h1 := ih (fun i i0 i1 => h i i0 (by omega))
      have h2 := h n (by omega) (by omega)
      unfold pu_cnt
      cases hp : P' n with
      | false =>
        have e : (0 : Int) ≤ (if P n = true then 1 else 0) := by split <;> omega
        simp only [Bool.false_eq_true, ↓reduceIte]
        omega
      | true => rw [h2 hp]; simp; omega
  intro n
  induction n with
  | zero => intro h; omega
  | succ n ih =>
    intro h1 h
    unfold pu_cnt
    by_cases hn : z = n
    · subst hn
      rw [hz, hz']
      have := le (n := n) (fun i i0 i1 => h i i0 (by omega))
      simp; omega
    · have h3 := ih (by omega) (fun i i0 i1 => h i i0 (by omega))
      have h2 := h n (by omega) (by omega)
      cases hp : P' n with
      | false =>
        have e : (0 : Int) ≤ (if P n = true then 1 else 0) := by split <;> omega
        simp only [Bool.false_eq_true, ↓reduceIte]
        omega
      | true => rw [h2 hp]; simp; omega
theorem pu_cnt_none {P : Int → Bool} : ∀ {n : Nat}, pu_cnt P n ≤ 0 → ∀ i : Int, 0 ≤ i → i < n → P i = false := by
  intro n
  induction n with
  | zero => intro _ i h0 h1; omega
  | succ n ih =>
    intro h i h0 h1
    have h2 := pu_cnt_le P n
    have h3 : pu_cnt P (n + 1) = pu_cnt P n + (if P n then 1 else 0) := rfl
    by_cases hp : P n = true
    · rw [hp] at h3; simp at h3; omega
    · have hpf : P n = false := by simpa using hp
      rw [hpf] at h3
      simp at h3
      by_cases hi : i = n
      · rw [hi]; exact hpf
      · exact ih (by omega) i h0 (by omega)
/-- somebody who isn't done has a neighbour who is -/
theorem pu_edge {n : Int} {nb : Int → Int → Prop} {F f : Int → Int} (hF : pu_lab n (fun a b => a < b ∧ nb a b) F) (hs : ∀ a b, nb a b → nb b a) (h : pu_rx n F f) {v : Int} (v0 : 0 ≤ v) (v1 : v < n) (hv : f v ≠ F v) : ∃ x y, 0 ≤ x ∧ x < n ∧ 0 ≤ y ∧ y < n ∧ nb x y ∧ f y = F y ∧ f x ≠ F x := by
  refine Classical.byContradiction fun hno => ?_
  have all : ∀ x y, 0 ≤ x → x < n → 0 ≤ y → y < n → nb x y → f y = F y → f x = F x := fun x y x0 x1 y0 y1 hn hy =>
    Classical.byContradiction fun hx => hno ⟨x, y, x0, x1, y0, y1, hn, hy, hx⟩
  have hg : pu_E n (fun a b => a < b ∧ nb a b) (fun x => if f x = F x then F x else F x + n + 1) := by
    intro a b a0 a1 b0 b1 hab
    have e := hF.2.1 a b a0 a1 b0 b1 hab
    show (if f a = F a then F a else F a + n + 1) = (if f b = F b then F b else F b + n + 1)
    by_cases ha : f a = F a
    · have hb := all b a b0 b1 a0 a1 (hs _ _ hab.2) ha
      rw [if_pos ha, if_pos hb, e]
    · have hb : ¬ f b = F b := fun q => ha (all a b a0 a1 b0 b1 hab.2 q)
      rw [if_neg ha, if_neg hb, e]
  obtain ⟨r0, r1, r2⟩ := hF.1 v v0 v1
  have hr := h (F v) r0 (by omega)
  have hfr : f (F v) = F (F v) := by omega
  have := hF.2.2 _ hg v (F v) v0 v1 r0 (by omega) r2.symm
  have e2 : (if f v = F v then F v else F v + n + 1) = (if f (F v) = F (F v) then F (F v) else F (F v) + n + 1) := this
  rw [if_neg hv, if_pos hfr] at e2
  omega
theorem pu_nf {n : Int} {nb : Int → Int → Prop} {F f f' : Int → Int} (n0 : 0 ≤ n) (hF : pu_lab n (fun a b => a < b ∧ nb a b) F) (hs : ∀ a b, nb a b → nb b a) (h : pu_rx n F f) {a : Int} (ha : n ≤ a) (hr : pu_rnd n nb F (fun x => f x = F x) a 0 f') {r : Int} (hr1 : r < n) (hc : pu_cnt (fun x => decide (f x ≠ F x)) n.toNat ≤ n - r) :
    pu_cnt (fun x => decide (f' x ≠ F x)) n.toNat ≤ n - (r + 1) := by
  by_cases hall : ∀ x, 0 ≤ x → x < n → f x = F x
  · rw [pu_cnt_0 (fun i i0 i1 => by simpa using hr.2.1 i i0 (by omega) (hall i i0 (by omega)))]
    omega
  · have : ∃ v, 0 ≤ v ∧ v < n ∧ f v ≠ F v := Classical.byContradiction fun q => hall (fun x x0 x1 => Classical.byContradiction fun e => q ⟨x, x0, x1, e⟩)
    obtain ⟨v, v0, v1, v2⟩ := this
    obtain ⟨x, y, x0, x1, y0, y1, e1, e2, e3⟩ := pu_edge hF hs h v0 v1 v2
    have := pu_cnt_sub (P := fun x => decide (f x ≠ F x)) (P' := fun x => decide (f' x ≠ F x)) x0 (by simpa using e3) (by simpa using hr.2.2 x y x0 x1 y0 y1 (by omega) e1 e2) (n := n.toNat) (by omega) (fun i i0 i1 hp => by
      have hp' : f' i ≠ F i := by simpa using hp
      have : f i ≠ F i := fun q => hp' (hr.2.1 i i0 (by omega) q)
      simpa using this)
    omega
theorem pu_done {n : Int} {nb : Int → Int → Prop} {F f : Int → Int} (hF : pu_lab n (fun a b => a < b ∧ nb a b) F) (hc : pu_cnt (fun x => decide (f x ≠ F x)) n.toNat ≤ 0) : pu_lab n (fun a b => a < b ∧ nb a b) f :=
  pu_labC hF (fun _ _ _ _ _ _ => Iff.rfl) (fun i i0 i1 => by
    have h2 : f i = F i := by simpa using pu_cnt_none hc i i0 (by omega)
    exact h2.symm)
theorem bf_nb_sym {t : Int} {L U R D : Int → Int} : ∀ a b, bf_nb t L U R D a b → bf_nb t L U R D b a := by
  intro a b h
  have h1 := h.1
  have h2 := h.2
  exact ⟨by omega, by omega⟩
theorem bf_nl_sym {t : Int} {L U R D : Int → Int} : ∀ a b, bf_nl t L U R D a b → bf_nl t L U R D b a := by
  intro a b h
  have h1 := h.1
  have h2 := h.2
  exact ⟨by omega, by omega⟩
end
section
/-! the reference: lines found -/
/-- the roots of f below k, in order -/
def pu_rts (k : Int) (f : Int → Int) (c : Int) (E : Int → Int) : Prop := c = pu_cnt (fun m => decide (f m = m)) k.toNat ∧ (∀ g, 0 ≤ g → g < c → 0 ≤ E g ∧ E g < k ∧ f (E g) = E g) ∧ (∀ g h, 0 ≤ g → g < h → h < c → E g < E h) ∧ ∀ r, 0 ≤ r → r < k → f r = r → ∃ g, 0 ≤ g ∧ g < c ∧ E g = r
theorem pu_rts0 {f E : Int → Int} : pu_rts 0 f 0 E := ⟨rfl, fun g _ _ => by omega, fun g h _ _ _ => by omega, fun r _ _ => by omega⟩
theorem pu_rts_y {k : Int} {f : Int → Int} {c : Int} {E : Int → Int} (h : pu_rts k f c E) (k0 : 0 ≤ k) (hk : f k = k) : pu_rts (k + 1) f (c + 1) (mv_s E c k) := by
  obtain ⟨h1, h2, h3, h4⟩ := h
  have hc := pu_cnt_le (fun m => decide (f m = m)) k.toNat
  rw [← h1] at hc
  refine ⟨by rw [pu_cnt_s k0, if_pos (by simpa using hk), ← h1], fun g g0 g1 => ?_, fun g g' g0 g1 g2 => ?_, fun r r0 r1 hr => ?_⟩
  · by_cases hg : g = c
    · rw [hg, mv_ss]; exact ⟨k0, by omega, hk⟩
    · rw [mv_sn hg]; have := h2 g g0 (by omega); exact ⟨this.1, by omega, this.2.2⟩
  · rw [mv_sn (show g ≠ c by omega)]
    by_cases hg : g' = c
    · rw [hg, mv_ss]; exact (h2 g g0 (by omega)).2.1
    · rw [mv_sn hg]; exact h3 g g' g0 g1 (by omega)
  · by_cases hrk : r = k
    · exact ⟨c, by omega, by omega, by rw [mv_ss, hrk]⟩
    · obtain ⟨g, g0, g1, g2⟩ := h4 r r0 (by omega) hr
      exact ⟨g, g0, by omega, by rw [mv_sn (by omega), g2]⟩
theorem pu_rts_n {k : Int} {f : Int → Int} {c : Int} {E : Int → Int} (h : pu_rts k f c E) (k0 : 0 ≤ k) (hk : ¬ f k = k) : pu_rts (k + 1) f c E := by
  obtain ⟨h1, h2, h3, h4⟩ := h
  refine ⟨by rw [pu_cnt_s k0, if_neg (by simpa using hk), ← h1, Int.add_zero], fun g g0 g1 => ?_, h3, fun r r0 r1 hr => ?_⟩
  · have := h2 g g0 g1; exact ⟨this.1, by omega, this.2.2⟩
  · by_cases hrk : r = k
    · rw [hrk] at hr; exact absurd hr hk
    · exact h4 r r0 (by omega) hr
theorem rf_fl_b {Q : List mv_V → mv_M → Prop} {M0 : mv_M} {co wi ta bo pa wy lc fo tu bl kl se ow : Int} (hO0 : rf_O M0 co wi ta bo pa wy lc fo tu bl kl se ow) (hwy : wy = 0 ∨ wy = 1) {B : Int → Int} (hB0 : M0.2 48 = .inl (256, B)) (hn0 : 0 ≤ bo) (hn : bo ≤ 64) (hok : rf_ok bo B) {F : Int → Int} (hF : pu_lab bo (fun a b => a < b ∧ (bf_nb wy (rf_l B) (rf_u B) (rf_r B) (rf_d B)) a b) F) {S0 : Int → Prop} {t r a : Int} (a0 : 0 ≤ a) (a1 : a < bo) (k : ∀ M' f b, bf_fr M0 M' 50 51 → M'.2 50 = .inl (64, f) → bo ≤ b → pu_rnd bo (bf_nb wy (rf_l B) (rf_u B) (rf_r B) (rf_d B)) F S0 a b f → mv_W md_RM_findLines 114 [.inr 47, .inl t, .inl r, .inl a, .inl b] [] M' (0, 0) Q) : ∀ (d : Nat) (b : Int) (M : mv_M) (f : Int → Int), bo - b < d → 0 ≤ b → b ≤ bo → bf_fr M0 M 50 51 → M.2 50 = .inl (64, f) → pu_rnd bo (bf_nb wy (rf_l B) (rf_u B) (rf_r B) (rf_d B)) F S0 a b f → mv_W md_RM_findLines 51 [.inr 47, .inl t, .inl r, .inl a, .inl b] [] M (0, 0) Q := by
  intro d
  induction d with
  | zero =>
    intro b M f hd b0 b1 hfr hLof hI
    exfalso; omega
  | succ d ih =>
    intro b M f hd b0 b1 hfr hLof hI
    have hO : rf_O M co wi ta bo pa wy lc fo tu bl kl se ow := by unfold rf_O; rw [hfr 47 (by omega)]; exact hO0
    have hBox : M.2 48 = .inl (256, B) := by rw [hfr 48 (by omega)]; exact hB0
    refine mx_iload d_RM_findLines_51 rfl ?_
    refine mx_aload_n d_RM_findLines_53 rfl (by omega) ?_
    refine mx_gl d_RM_findLines_54 f_RM_73 hO rfl ?_
    refine mx_icmp_ge 114 d_RM_findLines_57 (by decide) (fun c57 => ?_) (fun c57 => ?_)
    · skip
      exact k M f b hfr hLof (by omega) hI
    · skip
      refine mx_aload_n d_RM_findLines_60 rfl (by omega) ?_
      refine mx_gl d_RM_findLines_61 f_RM_16 hO rfl ?_
      refine mx_iload_n d_RM_findLines_64 rfl ?_
      refine mx_aload_n d_RM_findLines_65 rfl (by omega) ?_
      refine mx_gl d_RM_findLines_66 f_RM_16 hO rfl ?_
      refine mx_iload d_RM_findLines_69 rfl ?_
      refine mx_iald d_RM_findLines_71 hLof (by omega) (by omega) ?_
      refine mx_aload_n d_RM_findLines_72 rfl (by omega) ?_
      refine mx_gl d_RM_findLines_73 f_RM_16 hO rfl ?_
      refine mx_iload_n d_RM_findLines_76 rfl ?_
      refine mx_iald d_RM_findLines_77 hLof (by omega) (by omega) ?_
      refine mx_icmp_ge 101 d_RM_findLines_78 (by decide) (fun c78 => ?_) (fun c78 => ?_)
      · skip
        refine mx_aload_n d_RM_findLines_101 rfl (by omega) ?_
        refine mx_gl d_RM_findLines_102 f_RM_16 hO rfl ?_
        refine mx_iload_n d_RM_findLines_105 rfl ?_
        refine mx_iald d_RM_findLines_106 hLof (by omega) (by omega) ?_
        refine mx_iast d_RM_findLines_107 hLof (by omega) (by omega) (by omega) ?_
        refine mx_iinc d_RM_findLines_108 rfl (by unfold mv_r; omega) ?_
        refine mx_goto 51 d_RM_findLines_111 (by decide) ?_
        first | exact ih (b + 1) _ _ (by omega) (by omega) (by omega) (hfr.put (by omega) (by omega)) mv_ps (pu_rnd_s hF bf_nb_sym hI a0 a1 b0 (by omega) (Or.inl ⟨rfl, by omega, hnb⟩)) | exact ih (b + 1) _ _ (by omega) (by omega) (by omega) (hfr.put (by omega) (by omega)) mv_ps (pu_rnd_s hF bf_nb_sym hI a0 a1 b0 (by omega) (Or.inr ⟨rfl, fun q => hnb q.2⟩)) | exact ih (b + 1) _ _ (by omega) (by omega) (by omega) (hfr.put (by omega) (by omega)) mv_ps (pu_rnd_s hF bf_nb_sym hI a0 a1 b0 (by omega) (Or.inr ⟨rfl, fun q => by have := q.1; omega⟩))
      · skip
        refine mx_aload_n d_RM_findLines_81 rfl (by omega) ?_
        refine mx_iload_n d_RM_findLines_82 rfl ?_
        refine mx_iload d_RM_findLines_83 rfl ?_
        refine mx_cV2 d_RM_findLines_85 c_RM_109 hO (by decide) (Nat.le_of_ble_eq_true rfl) ?_
        refine rf_areBoxesNear hO hwy hBox hn hok a0 a1 b0 (by omega) (fun hnb => ?_) (fun hnb => ?_)
        · skip
          refine mx_z1 101 d_RM_findLines_88 (by decide) ?_
          refine mx_aload_n d_RM_findLines_91 rfl (by omega) ?_
          refine mx_gl d_RM_findLines_92 f_RM_16 hO rfl ?_
          refine mx_iload d_RM_findLines_95 rfl ?_
          refine mx_iald d_RM_findLines_97 hLof (by omega) (by omega) ?_
          refine mx_goto 107 d_RM_findLines_98 (by decide) ?_
          refine mx_iast d_RM_findLines_107 hLof (by omega) (by omega) (by omega) ?_
          refine mx_iinc d_RM_findLines_108 rfl (by unfold mv_r; omega) ?_
          refine mx_goto 51 d_RM_findLines_111 (by decide) ?_
          first | exact ih (b + 1) _ _ (by omega) (by omega) (by omega) (hfr.put (by omega) (by omega)) mv_ps (pu_rnd_s hF bf_nb_sym hI a0 a1 b0 (by omega) (Or.inl ⟨rfl, by omega, hnb⟩)) | exact ih (b + 1) _ _ (by omega) (by omega) (by omega) (hfr.put (by omega) (by omega)) mv_ps (pu_rnd_s hF bf_nb_sym hI a0 a1 b0 (by omega) (Or.inr ⟨rfl, fun q => hnb q.2⟩)) | exact ih (b + 1) _ _ (by omega) (by omega) (by omega) (hfr.put (by omega) (by omega)) mv_ps (pu_rnd_s hF bf_nb_sym hI a0 a1 b0 (by omega) (Or.inr ⟨rfl, fun q => by have := q.1; omega⟩))
        · skip
          refine mx_z0 101 d_RM_findLines_88 (by decide) ?_
          refine mx_aload_n d_RM_findLines_101 rfl (by omega) ?_
          refine mx_gl d_RM_findLines_102 f_RM_16 hO rfl ?_
          refine mx_iload_n d_RM_findLines_105 rfl ?_
          refine mx_iald d_RM_findLines_106 hLof (by omega) (by omega) ?_
          refine mx_iast d_RM_findLines_107 hLof (by omega) (by omega) (by omega) ?_
          refine mx_iinc d_RM_findLines_108 rfl (by unfold mv_r; omega) ?_
          refine mx_goto 51 d_RM_findLines_111 (by decide) ?_
          first | exact ih (b + 1) _ _ (by omega) (by omega) (by omega) (hfr.put (by omega) (by omega)) mv_ps (pu_rnd_s hF bf_nb_sym hI a0 a1 b0 (by omega) (Or.inl ⟨rfl, by omega, hnb⟩)) | exact ih (b + 1) _ _ (by omega) (by omega) (by omega) (hfr.put (by omega) (by omega)) mv_ps (pu_rnd_s hF bf_nb_sym hI a0 a1 b0 (by omega) (Or.inr ⟨rfl, fun q => hnb q.2⟩)) | exact ih (b + 1) _ _ (by omega) (by omega) (by omega) (hfr.put (by omega) (by omega)) mv_ps (pu_rnd_s hF bf_nb_sym hI a0 a1 b0 (by omega) (Or.inr ⟨rfl, fun q => by have := q.1; omega⟩))
theorem rf_fl_a {Q : List mv_V → mv_M → Prop} {M0 : mv_M} {co wi ta bo pa wy lc fo tu bl kl se ow : Int} (hO0 : rf_O M0 co wi ta bo pa wy lc fo tu bl kl se ow) (hwy : wy = 0 ∨ wy = 1) {B : Int → Int} (hB0 : M0.2 48 = .inl (256, B)) (hn0 : 0 ≤ bo) (hn : bo ≤ 64) (hok : rf_ok bo B) {F : Int → Int} (hF : pu_lab bo (fun a b => a < b ∧ (bf_nb wy (rf_l B) (rf_u B) (rf_r B) (rf_d B)) a b) F) {S0 : Int → Prop} {t r : Int} (k : ∀ M' f a v, bf_fr M0 M' 50 51 → M'.2 50 = .inl (64, f) → bo ≤ a → pu_rnd bo (bf_nb wy (rf_l B) (rf_u B) (rf_r B) (rf_d B)) F S0 a 0 f → mv_W md_RM_findLines 120 [.inr 47, .inl t, .inl r, .inl a, v] [] M' (0, 0) Q) : ∀ (d : Nat) (a : Int) (M : mv_M) (f : Int → Int) (v : mv_V), bo - a < d → 0 ≤ a → a ≤ bo → bf_fr M0 M 50 51 → M.2 50 = .inl (64, f) → pu_rnd bo (bf_nb wy (rf_l B) (rf_u B) (rf_r B) (rf_d B)) F S0 a 0 f → mv_W md_RM_findLines 40 [.inr 47, .inl t, .inl r, .inl a, v] [] M (0, 0) Q := by
  intro d
  induction d with
  | zero =>
    intro a M f v hd a0 a1 hfr hLof hI
    exfalso; omega
  | succ d ih =>
    intro a M f v hd a0 a1 hfr hLof hI
    have hO : rf_O M co wi ta bo pa wy lc fo tu bl kl se ow := by unfold rf_O; rw [hfr 47 (by omega)]; exact hO0
    have hBox : M.2 48 = .inl (256, B) := by rw [hfr 48 (by omega)]; exact hB0
    refine mx_iload_n d_RM_findLines_40 rfl ?_
    refine mx_aload_n d_RM_findLines_41 rfl (by omega) ?_
    refine mx_gl d_RM_findLines_42 f_RM_73 hO rfl ?_
    refine mx_icmp_ge 120 d_RM_findLines_45 (by decide) (fun c45 => ?_) (fun c45 => ?_)
    · skip
      exact k M f a v hfr hLof (by omega) hI
    · skip
      refine mx_iconst (0) d_RM_findLines_48 (by decide +kernel) (by unfold mv_r; omega) ?_
      refine mx_istore d_RM_findLines_49 (by decide) ?_
      refine rf_fl_b hO0 hwy hB0 hn0 hn hok hF a0 (by omega) ?_ (bo.toNat + 1) 0 M f (by omega) (by omega) hn0 hfr hLof hI
      intro M' f' b' hfr' hLof' hb' hI'
      refine mx_iinc d_RM_findLines_114 rfl (by unfold mv_r; omega) ?_
      refine mx_goto 40 d_RM_findLines_117 (by decide) ?_
      exact ih (a + 1) M' f' _ (by omega) (by omega) (by omega) hfr' hLof' (pu_rnd_row hI' hb')
theorem rf_fl_r {Q : List mv_V → mv_M → Prop} {M0 : mv_M} {co wi ta bo pa wy lc fo tu bl kl se ow : Int} (hO0 : rf_O M0 co wi ta bo pa wy lc fo tu bl kl se ow) (hwy : wy = 0 ∨ wy = 1) {B : Int → Int} (hB0 : M0.2 48 = .inl (256, B)) (hn0 : 0 ≤ bo) (hn : bo ≤ 64) (hok : rf_ok bo B) {F : Int → Int} (hF : pu_lab bo (fun a b => a < b ∧ (bf_nb wy (rf_l B) (rf_u B) (rf_r B) (rf_d B)) a b) F) {t : Int} (k : ∀ M' f r v v', bf_fr M0 M' 50 51 → M'.2 50 = .inl (64, f) → pu_lab bo (fun a b => a < b ∧ (bf_nb wy (rf_l B) (rf_u B) (rf_r B) (rf_d B)) a b) f → mv_W md_RM_findLines 126 [.inr 47, .inl t, .inl r, v, v'] [] M' (0, 0) Q) : ∀ (d : Nat) (r : Int) (M : mv_M) (f : Int → Int) (v v' : mv_V), bo - r < d → 0 ≤ r → r ≤ bo → bf_fr M0 M 50 51 → M.2 50 = .inl (64, f) → pu_rx bo F f → pu_cnt (fun x => decide (f x ≠ F x)) bo.toNat ≤ bo - r → mv_W md_RM_findLines 30 [.inr 47, .inl t, .inl r, v, v'] [] M (0, 0) Q := by
  intro d
  induction d with
  | zero =>
    intro r M f v v' hd r0 r1 hfr hLof hI hc
    exfalso; omega
  | succ d ih =>
    intro r M f v v' hd r0 r1 hfr hLof hI hc
    have hO : rf_O M co wi ta bo pa wy lc fo tu bl kl se ow := by unfold rf_O; rw [hfr 47 (by omega)]; exact hO0
    have hBox : M.2 48 = .inl (256, B) := by rw [hfr 48 (by omega)]; exact hB0
    refine mx_iload_n d_RM_findLines_30 rfl ?_
    refine mx_aload_n d_RM_findLines_31 rfl (by omega) ?_
    refine mx_gl d_RM_findLines_32 f_RM_73 hO rfl ?_
    refine mx_icmp_ge 126 d_RM_findLines_35 (by decide) (fun c35 => ?_) (fun c35 => ?_)
    · skip
      exact k M f r v v' hfr hLof (pu_done hF (by omega))
    · skip
      refine mx_iconst (0) d_RM_findLines_38 (by decide +kernel) (by unfold mv_r; omega) ?_
      refine mx_istore_n d_RM_findLines_39 (by decide) ?_
      refine rf_fl_a hO0 hwy hB0 hn0 hn hok hF ?_ (bo.toNat + 1) 0 M f v' (by omega) (by omega) hn0 hfr hLof (pu_rnd0 hI)
      intro M' f' a' v2 hfr' hLof' ha' hI'
      refine mx_iinc d_RM_findLines_120 rfl (by unfold mv_r; omega) ?_
      refine mx_goto 30 d_RM_findLines_123 (by decide) ?_
      exact ih (r + 1) M' f' _ _ (by omega) (by omega) (by omega) hfr' hLof' hI'.1 (pu_nf hn0 hF bf_nb_sym hI ha' hI' (by omega) hc)
theorem rf_fl_0 {Q : List mv_V → mv_M → Prop} {M0 : mv_M} {co wi ta bo pa wy lc fo tu bl kl se ow : Int} (hO0 : rf_O M0 co wi ta bo pa wy lc fo tu bl kl se ow) (hwy : wy = 0 ∨ wy = 1) {B : Int → Int} (hB0 : M0.2 48 = .inl (256, B)) (hn0 : 0 ≤ bo) (hn : bo ≤ 64) (hok : rf_ok bo B) {t : Int} {v3 v4 : mv_V} (k : ∀ M' f, bf_fr M0 M' 50 51 → M'.2 50 = .inl (64, f) → (∀ j, 0 ≤ j → j < bo → f j = j) → mv_W md_RM_findLines 30 [.inr 47, .inl t, .inl 0, v3, v4] [] M' (0, 0) Q) : ∀ (d : Nat) (i : Int) (M : mv_M) (f : Int → Int), bo - i < d → 0 ≤ i → i ≤ bo → bf_fr M0 M 50 51 → M.2 50 = .inl (64, f) → (∀ j, 0 ≤ j → j < i → f j = j) → mv_W md_RM_findLines 7 [.inr 47, .inl t, .inl i, v3, v4] [] M (0, 0) Q := by
  intro d
  induction d with
  | zero =>
    intro i M f hd i0 i1 hfr hLof hI
    exfalso; omega
  | succ d ih =>
    intro i M f hd i0 i1 hfr hLof hI
    have hO : rf_O M co wi ta bo pa wy lc fo tu bl kl se ow := by unfold rf_O; rw [hfr 47 (by omega)]; exact hO0
    have hBox : M.2 48 = .inl (256, B) := by rw [hfr 48 (by omega)]; exact hB0
    refine mx_iload_n d_RM_findLines_7 rfl ?_
    refine mx_aload_n d_RM_findLines_8 rfl (by omega) ?_
    refine mx_gl d_RM_findLines_9 f_RM_73 hO rfl ?_
    refine mx_icmp_ge 28 d_RM_findLines_12 (by decide) (fun c12 => ?_) (fun c12 => ?_)
    · skip
      refine mx_iconst (0) d_RM_findLines_28 (by decide +kernel) (by unfold mv_r; omega) ?_
      refine mx_istore_n d_RM_findLines_29 (by decide) ?_
      exact k M f hfr hLof (fun j j0 j1 => hI j j0 (by omega))
    · skip
      refine mx_aload_n d_RM_findLines_15 rfl (by omega) ?_
      refine mx_gl d_RM_findLines_16 f_RM_16 hO rfl ?_
      refine mx_iload_n d_RM_findLines_19 rfl ?_
      refine mx_iload_n d_RM_findLines_20 rfl ?_
      refine mx_iast d_RM_findLines_21 hLof (by omega) (by omega) (by omega) ?_
      refine mx_iinc d_RM_findLines_22 rfl (by unfold mv_r; omega) ?_
      refine mx_goto 7 d_RM_findLines_25 (by decide) ?_
      exact ih (i + 1) _ _ (by omega) (by omega) (by omega) (hfr.put (by omega) (by omega)) mv_ps (fun j j0 j1 => by
        by_cases hj : j = i
        · rw [hj, mv_ss]
        · rw [mv_sn hj]; exact hI j j0 (by omega))
theorem rf_fl_z {Q : List mv_V → mv_M → Prop} {M0 : mv_M} {co wi ta bo pa wy fo tu bl kl se ow : Int} (hn0 : 0 ≤ bo) (hn : bo ≤ 64) {f : Int → Int} (hL0 : M0.2 50 = .inl (64, f)) {t : Int} {v3 v4 : mv_V} (k : ∀ M' c E, (∀ j, j ≠ 47 → j ≠ 52 → M'.2 j = M0.2 j) → rf_O M' co wi ta bo pa wy c fo tu bl kl se ow → M'.2 52 = .inl (64, E) → pu_rts bo f c E → Q [.inl c] M') : ∀ (d : Nat) (i : Int) (M : mv_M) (c : Int) (E : Int → Int), bo - i < d → 0 ≤ i → i ≤ bo → (∀ j, j ≠ 47 → j ≠ 52 → M.2 j = M0.2 j) → rf_O M co wi ta bo pa wy c fo tu bl kl se ow → M.2 52 = .inl (64, E) → pu_rts i f c E → mv_W md_RM_findLines 133 [.inr 47, .inl t, .inl i, v3, v4] [] M (0, 0) Q := by
  intro d
  induction d with
  | zero =>
    intro i M c E hd i0 i1 hfr hO hLle hI
    exfalso; omega
  | succ d ih =>
    intro i M c E hd i0 i1 hfr hO hLle hI
    have hLof : M.2 50 = .inl (64, f) := by rw [hfr 50 (by omega) (by omega)]; exact hL0
    have hcc := pu_cnt_le (fun m => decide (f m = m)) i.toNat
    have hc1 := hI.1
    rw [← hc1] at hcc
    refine mx_iload_n d_RM_findLines_133 rfl ?_
    refine mx_aload_n d_RM_findLines_134 rfl (by omega) ?_
    refine mx_gl d_RM_findLines_135 f_RM_73 hO rfl ?_
    refine mx_icmp_ge 177 d_RM_findLines_138 (by decide) (fun c138 => ?_) (fun c138 => ?_)
    · skip
      refine mx_aload_n d_RM_findLines_177 rfl (by omega) ?_
      refine mx_gl d_RM_findLines_178 f_RM_113 hO rfl ?_
      refine mx_ireturn d_RM_findLines_181 rfl ?_
      exact k M c E hfr hO hLle ((show i = bo by omega) ▸ hI)
    · skip
      refine mx_aload_n d_RM_findLines_141 rfl (by omega) ?_
      refine mx_gl d_RM_findLines_142 f_RM_16 hO rfl ?_
      refine mx_iload_n d_RM_findLines_145 rfl ?_
      refine mx_iald d_RM_findLines_146 hLof (by omega) (by omega) ?_
      refine mx_iload_n d_RM_findLines_147 rfl ?_
      refine mx_icmp_ne 171 d_RM_findLines_148 (by decide) (fun c148 => ?_) (fun c148 => ?_)
      · skip
        refine mx_iinc d_RM_findLines_171 rfl (by unfold mv_r; omega) ?_
        refine mx_goto 133 d_RM_findLines_174 (by decide) ?_
        first | exact ih (i + 1) _ (c + 1) _ (by omega) (by omega) (by omega) (fun j j1 j2 => by rw [mv_pn j1, mv_pn j2]; exact hfr j j1 j2) mv_ps (by rw [mv_pn (by omega), mv_ps]) (pu_rts_y hI i0 (by omega)) | exact ih (i + 1) M c E (by omega) (by omega) (by omega) hfr hO hLle (pu_rts_n hI i0 (by omega))
      · skip
        refine mx_aload_n d_RM_findLines_151 rfl (by omega) ?_
        refine mx_gl d_RM_findLines_152 f_RM_22 hO rfl ?_
        refine mx_aload_n d_RM_findLines_155 rfl (by omega) ?_
        refine mx_gl d_RM_findLines_156 f_RM_113 hO rfl ?_
        refine mx_iload_n d_RM_findLines_159 rfl ?_
        refine mx_iast d_RM_findLines_160 hLle (by omega) (by omega) (by omega) ?_
        refine mx_aload_n d_RM_findLines_161 rfl (by omega) ?_
        refine mx_dup d_RM_findLines_162 ?_
        refine mx_gl d_RM_findLines_163 f_RM_113 (by rw [mv_pn (by omega)]; exact hO) rfl ?_
        refine mx_iconst (1) d_RM_findLines_166 (by decide +kernel) (by unfold mv_r; omega) ?_
        refine mx_iadd d_RM_findLines_167 (by unfold mv_r; omega) ?_
        refine mx_pl d_RM_findLines_168 g_RM_113 (by rw [mv_pn (by omega)]; exact hO) (mv_Vi _) (Nat.le_of_ble_eq_true rfl) ?_
        refine mx_iinc d_RM_findLines_171 rfl (by unfold mv_r; omega) ?_
        refine mx_goto 133 d_RM_findLines_174 (by decide) ?_
        first | exact ih (i + 1) _ (c + 1) _ (by omega) (by omega) (by omega) (fun j j1 j2 => by rw [mv_pn j1, mv_pn j2]; exact hfr j j1 j2) mv_ps (by rw [mv_pn (by omega), mv_ps]) (pu_rts_y hI i0 (by omega)) | exact ih (i + 1) M c E (by omega) (by omega) (by omega) hfr hO hLle (pu_rts_n hI i0 (by omega))
theorem rf_findLines {Q : List mv_V → mv_M → Prop} {M : mv_M} {co wi ta bo pa wy lc fo tu bl kl se ow : Int} (hO : rf_O M co wi ta bo pa wy lc fo tu bl kl se ow) {B : Int → Int} (hBox : M.2 48 = .inl (256, B)) {f0 E0 : Int → Int} (hLof : M.2 50 = .inl (64, f0)) (hLle : M.2 52 = .inl (64, E0)) (hn0 : 0 ≤ bo) (hn : bo ≤ 64) (hok : rf_ok bo B) {t : Int} (ht : t = 0 ∨ t = 1) (k : ∀ M' f E c, (∀ j, j ≠ 47 → j ≠ 50 → j ≠ 52 → M'.2 j = M.2 j) → rf_O M' co wi ta bo pa t c fo tu bl kl se ow → M'.2 50 = .inl (64, f) → M'.2 52 = .inl (64, E) → pu_lab bo (fun a b => a < b ∧ (bf_nb t (rf_l B) (rf_u B) (rf_r B) (rf_d B)) a b) f → pu_rts bo f c E → Q [.inl c] M') : mv_J md_RM_findLines [.inr 47, .inl t] M Q := by
  refine mv_enter (by decide +kernel) (Nat.le_of_ble_eq_true rfl) ?_
  show mv_W md_RM_findLines 0 [.inr 47, .inl t, .inr 0, .inr 0, .inr 0] [] M (0, 0) Q
  refine mx_aload_n d_RM_findLines_0 rfl (by omega) ?_
  refine mx_iload_n d_RM_findLines_1 rfl ?_
  refine mx_pl d_RM_findLines_2 g_RM_79 hO (mv_Vz ht) (Nat.le_of_ble_eq_true rfl) ?_
  refine mx_iconst (0) d_RM_findLines_5 (by decide +kernel) (by unfold mv_r; omega) ?_
  refine mx_istore_n d_RM_findLines_6 (by decide) ?_
  have hO1 : rf_O (mv_p M 47 (.inr (ki_RM, mv_l [.inl co, .inl wi, .inl ta, .inl bo, .inr 48, .inl pa, .inr 49, .inl t, .inr 50, .inl lc, .inr 51, .inr 52, .inr 53, .inl fo, .inl tu, .inl bl, .inr 54, .inr 55, .inr 56, .inr 57, .inr 58, .inl kl, .inr 59, .inr 60, .inr 61, .inr 62, .inl se, .inr 63, .inl ow]))) co wi ta bo pa t lc fo tu bl kl se ow := mv_ps
  have hfr1 : bf_fr M (mv_p M 47 (.inr (ki_RM, mv_l [.inl co, .inl wi, .inl ta, .inl bo, .inr 48, .inl pa, .inr 49, .inl t, .inr 50, .inl lc, .inr 51, .inr 52, .inr 53, .inl fo, .inl tu, .inl bl, .inr 54, .inr 55, .inr 56, .inr 57, .inr 58, .inl kl, .inr 59, .inr 60, .inr 61, .inr 62, .inl se, .inr 63, .inl ow]))) 47 48 := fun j hj => mv_pn (by omega)
  show mv_W md_RM_findLines 7 [.inr 47, .inl t, .inl 0, .inr 0, .inr 0] [] (mv_p M 47 (.inr (ki_RM, mv_l [.inl co, .inl wi, .inl ta, .inl bo, .inr 48, .inl pa, .inr 49, .inl t, .inr 50, .inl lc, .inr 51, .inr 52, .inr 53, .inl fo, .inl tu, .inl bl, .inr 54, .inr 55, .inr 56, .inr 57, .inr 58, .inl kl, .inr 59, .inr 60, .inr 61, .inr 62, .inl se, .inr 63, .inl ow]))) (0, 0) Q
  generalize mv_p M 47 _ = M1 at hO1 hfr1 ⊢
  have hB1 : M1.2 48 = .inl (256, B) := by rw [hfr1 48 (by omega)]; exact hBox
  refine rf_fl_0 hO1 ht hB1 hn0 hn hok ?_ (bo.toNat + 1) 0 M1 f0 (by omega) (by omega) hn0 bf_fr.refl (by rw [hfr1 50 (by omega)]; exact hLof) (fun j j0 j1 => by omega)
  intro M2 f2 hfr2 hLof2 hf2
  have hO2 : rf_O M2 co wi ta bo pa t lc fo tu bl kl se ow := by unfold rf_O; rw [hfr2 47 (by omega)]; exact hO1
  obtain ⟨Fl, hFl⟩ := pu_ex (n := bo) (bf_nb t (rf_l B) (rf_u B) (rf_r B) (rf_d B)) hn0
  have hrx : pu_rx bo Fl f2 := fun a a0 a1 => by rw [hf2 a a0 a1]; have := hFl.1 a a0 a1; omega
  refine rf_fl_r hO2 ht (by rw [hfr2 48 (by omega)]; exact hB1) hn0 hn hok hFl ?_ (bo.toNat + 1) 0 M2 f2 _ _ (by omega) (by omega) hn0 bf_fr.refl hLof2 hrx (by have := pu_cnt_le (fun x => decide (f2 x ≠ Fl x)) bo.toNat; omega)
  intro M3 f3 r3 v3 v4 hfr3 hLof3 hlab3
  have hO3 : rf_O M3 co wi ta bo pa t lc fo tu bl kl se ow := by unfold rf_O; rw [hfr3 47 (by omega)]; exact hO2
  refine mx_aload_n d_RM_findLines_126 rfl (by omega) ?_
  refine mx_iconst (0) d_RM_findLines_127 (by decide +kernel) (by unfold mv_r; omega) ?_
  refine mx_pl d_RM_findLines_128 g_RM_113 hO3 (mv_Vi _) (Nat.le_of_ble_eq_true rfl) ?_
  refine mx_iconst (0) d_RM_findLines_131 (by decide +kernel) (by unfold mv_r; omega) ?_
  refine mx_istore_n d_RM_findLines_132 (by decide) ?_
  refine rf_fl_z (M0 := M3) hn0 hn hLof3 ?_ (bo.toNat + 1) 0 _ 0 E0 (by omega) (by omega) hn0 (fun j j1 j2 => mv_pn j1) mv_ps (by rw [mv_pn (by omega), hfr3 52 (by omega), hfr2 52 (by omega), hfr1 52 (by omega)]; exact hLle) pu_rts0
  intro M4 c4 E4 hfr4 hO4 hLle4 hrt4
  exact k M4 f3 E4 c4 (fun j j1 j2 j3 => by rw [hfr4 j j1 j3, hfr3 j (by omega), hfr2 j (by omega), hfr1 j (by omega)]) hO4 (by rw [hfr4 50 (by omega) (by omega)]; exact hLof3) hLle4 hlab3 hrt4
end
section
/-! the reference: rectangles of lines -/
def rf_jn (A A' : Int → Int) (q x0 y0 x1 y1 : Int) : Prop := (∀ j, (j < 4 * q ∨ 4 * q + 4 ≤ j) → A' j = A j) ∧ rf_l A' q = x0 ∧ rf_u A' q = y0 ∧ rf_r A' q = x1 ∧ rf_d A' q = y1
theorem rf_jn_s {A : Int → Int} {q x0 y0 w h : Int} : rf_jn A (mv_s (mv_s (mv_s (mv_s A (4 * q) x0) (4 * q + 1) y0) (4 * q + 2) w) (4 * q + 3) h) q x0 y0 (x0 + w) (y0 + h) := by
  refine ⟨fun j hj => by rw [mv_sn (by omega), mv_sn (by omega), mv_sn (by omega), mv_sn (by omega)], ?_, ?_, ?_, ?_⟩
  · unfold rf_l; rw [mv_sn (by omega), mv_sn (by omega), mv_sn (by omega), mv_ss]
  · unfold rf_u; rw [mv_sn (by omega), mv_sn (by omega), mv_ss]
  · unfold rf_r; rw [mv_sn (by omega), mv_sn (by omega), mv_sn (by omega), mv_ss, mv_sn (by omega), mv_ss]
  · unfold rf_d; rw [mv_sn (by omega), mv_sn (by omega), mv_ss, mv_ss]
theorem rf_join1 {Q : List mv_V → mv_M → Prop} {M : mv_M} {a : Nat} {A : Int → Int} (ha : 2 ≤ a) (hA : M.2 a = .inl (256, A)) {q x y w h : Int} (q0 : 0 ≤ q) (q1 : q < 64) (x0 : 0 ≤ x) (xw : x + w ≤ 4096) (w0 : 0 ≤ w) (y0 : 0 ≤ y) (yh : y + h ≤ 4096) (h0 : 0 ≤ h) (k : ∀ M' A', bf_fr M M' a (a + 1) → M'.2 a = .inl (256, A') → rf_jn A A' q x y (x + w) (y + h) → Q [] M') : mv_J md_RM_join [.inr a, .inl q, .inl x, .inl y, .inl w, .inl h, .inl 1] M Q := by
  refine mv_enter (by decide +kernel) (Nat.le_of_ble_eq_true rfl) ?_
  show mv_W md_RM_join 0 [.inr a, .inl q, .inl x, .inl y, .inl w, .inl h, .inl 1, .inr 0, .inr 0] [] M (0, 0) Q
  refine mx_iload d_RM_join_0 rfl ?_
  refine mx_z1 12 d_RM_join_2 (by decide) ?_
  refine mx_iload_n d_RM_join_5 rfl ?_
  refine mx_iload d_RM_join_6 rfl ?_
  refine mx_iadd d_RM_join_8 (by unfold mv_r; omega) ?_
  refine mx_goto 32 d_RM_join_9 (by decide) ?_
  refine mx_istore d_RM_join_32 (by decide) ?_
  refine mx_iload d_RM_join_34 rfl ?_
  refine mx_z1 46 d_RM_join_36 (by decide) ?_
  refine mx_iload_n d_RM_join_39 rfl ?_
  refine mx_iload d_RM_join_40 rfl ?_
  refine mx_iadd d_RM_join_42 (by unfold mv_r; omega) ?_
  refine mx_goto 68 d_RM_join_43 (by decide) ?_
  refine mx_istore d_RM_join_68 (by decide) ?_
  refine mx_aload_n d_RM_join_70 rfl (by omega) ?_
  refine mx_iconst (4) d_RM_join_71 (by decide +kernel) (by unfold mv_r; omega) ?_
  refine mx_iload_n d_RM_join_72 rfl ?_
  refine mx_imul d_RM_join_73 (by unfold mv_r; omega) ?_
  refine mx_iload d_RM_join_74 rfl ?_
  refine mx_z1 83 d_RM_join_76 (by decide) ?_
  refine mx_iload_n d_RM_join_79 rfl ?_
  refine mx_goto 92 d_RM_join_80 (by decide) ?_
  refine mx_iast d_RM_join_92 hA (by omega) (by omega) (by omega) ?_
  refine mx_aload_n d_RM_join_93 rfl (by omega) ?_
  refine mx_iconst (4) d_RM_join_94 (by decide +kernel) (by unfold mv_r; omega) ?_
  refine mx_iload_n d_RM_join_95 rfl ?_
  refine mx_imul d_RM_join_96 (by unfold mv_r; omega) ?_
  refine mx_iconst (1) d_RM_join_97 (by decide +kernel) (by unfold mv_r; omega) ?_
  refine mx_iadd d_RM_join_98 (by unfold mv_r; omega) ?_
  refine mx_iload d_RM_join_99 rfl ?_
  refine mx_z1 108 d_RM_join_101 (by decide) ?_
  refine mx_iload_n d_RM_join_104 rfl ?_
  refine mx_goto 119 d_RM_join_105 (by decide) ?_
  refine mx_iast d_RM_join_119 (by rw [mv_ps]) (by omega) (by omega) (by omega) ?_
  refine mx_aload_n d_RM_join_120 rfl (by omega) ?_
  refine mx_iconst (4) d_RM_join_121 (by decide +kernel) (by unfold mv_r; omega) ?_
  refine mx_iload_n d_RM_join_122 rfl ?_
  refine mx_imul d_RM_join_123 (by unfold mv_r; omega) ?_
  refine mx_iconst (2) d_RM_join_124 (by decide +kernel) (by unfold mv_r; omega) ?_
  refine mx_iadd d_RM_join_125 (by unfold mv_r; omega) ?_
  refine mx_iload d_RM_join_126 rfl ?_
  refine mx_aload_n d_RM_join_128 rfl (by omega) ?_
  refine mx_iconst (4) d_RM_join_129 (by decide +kernel) (by unfold mv_r; omega) ?_
  refine mx_iload_n d_RM_join_130 rfl ?_
  refine mx_imul d_RM_join_131 (by unfold mv_r; omega) ?_
  refine mx_iald d_RM_join_132 (by rw [mv_ps]) (by omega) (by omega) ?_
  rw [mv_sn (show (4 * q : Int) ≠ 4 * q + 1 by omega), mv_ss]
  refine mx_isub d_RM_join_133 (by unfold mv_r; omega) ?_
  refine mx_iast d_RM_join_134 (by rw [mv_ps]) (by omega) (by omega) (by omega) ?_
  refine mx_aload_n d_RM_join_135 rfl (by omega) ?_
  refine mx_iconst (4) d_RM_join_136 (by decide +kernel) (by unfold mv_r; omega) ?_
  refine mx_iload_n d_RM_join_137 rfl ?_
  refine mx_imul d_RM_join_138 (by unfold mv_r; omega) ?_
  refine mx_iconst (3) d_RM_join_139 (by decide +kernel) (by unfold mv_r; omega) ?_
  refine mx_iadd d_RM_join_140 (by unfold mv_r; omega) ?_
  refine mx_iload d_RM_join_141 rfl ?_
  refine mx_aload_n d_RM_join_143 rfl (by omega) ?_
  refine mx_iconst (4) d_RM_join_144 (by decide +kernel) (by unfold mv_r; omega) ?_
  refine mx_iload_n d_RM_join_145 rfl ?_
  refine mx_imul d_RM_join_146 (by unfold mv_r; omega) ?_
  refine mx_iconst (1) d_RM_join_147 (by decide +kernel) (by unfold mv_r; omega) ?_
  refine mx_iadd d_RM_join_148 (by unfold mv_r; omega) ?_
  refine mx_iald d_RM_join_149 (by rw [mv_ps]) (by omega) (by omega) ?_
  rw [mv_sn (show (4 * q + 1 : Int) ≠ 4 * q + 2 by omega), mv_ss]
  refine mx_isub d_RM_join_150 (by unfold mv_r; omega) ?_
  refine mx_iast d_RM_join_151 (by rw [mv_ps]) (by omega) (by omega) (by omega) ?_
  refine mx_return d_RM_join_152 rfl ?_
  have hj := rf_jn_s (A := A) (q := q) (x0 := x) (y0 := y) (w := x + w - x) (h := y + h - y)
  rw [show x + (x + w - x) = x + w by omega, show y + (y + h - y) = y + h by omega] at hj
  exact k _ _ (bf_fr.refl.put (by omega) (by omega) |>.put (by omega) (by omega) |>.put (by omega) (by omega) |>.put (by omega) (by omega)) mv_ps hj
theorem rf_join0 {Q : List mv_V → mv_M → Prop} {M : mv_M} {a : Nat} {A : Int → Int} (ha : 2 ≤ a) (hA : M.2 a = .inl (256, A)) {q x y w h : Int} (q0 : 0 ≤ q) (q1 : q < 64) (x0 : 0 ≤ x) (xw : x + w ≤ 4096) (w0 : 0 ≤ w) (y0 : 0 ≤ y) (yh : y + h ≤ 4096) (h0 : 0 ≤ h) (hb : 0 ≤ rf_l A q ∧ rf_l A q < rf_r A q ∧ rf_r A q ≤ 4096 ∧ 0 ≤ rf_u A q ∧ rf_u A q < rf_d A q ∧ rf_d A q ≤ 4096) (k : ∀ M' A', bf_fr M M' a (a + 1) → M'.2 a = .inl (256, A') → rf_jn A A' q (min (rf_l A q) x) (min (rf_u A q) y) (max (rf_r A q) (x + w)) (max (rf_d A q) (y + h)) → Q [] M') : mv_J md_RM_join [.inr a, .inl q, .inl x, .inl y, .inl w, .inl h, .inl 0] M Q := by
  refine mv_enter (by decide +kernel) (Nat.le_of_ble_eq_true rfl) ?_
  show mv_W md_RM_join 0 [.inr a, .inl q, .inl x, .inl y, .inl w, .inl h, .inl 0, .inr 0, .inr 0] [] M (0, 0) Q
  unfold rf_l rf_u rf_r rf_d at hb
  refine mx_iload d_RM_join_0 rfl ?_
  refine mx_z0 12 d_RM_join_2 (by decide) ?_
  refine mx_aload_n d_RM_join_12 rfl (by omega) ?_
  refine mx_iconst (4) d_RM_join_13 (by decide +kernel) (by unfold mv_r; omega) ?_
  refine mx_iload_n d_RM_join_14 rfl ?_
  refine mx_imul d_RM_join_15 (by unfold mv_r; omega) ?_
  refine mx_iald d_RM_join_16 hA (by omega) (by omega) ?_
  refine mx_aload_n d_RM_join_17 rfl (by omega) ?_
  refine mx_iconst (4) d_RM_join_18 (by decide +kernel) (by unfold mv_r; omega) ?_
  refine mx_iload_n d_RM_join_19 rfl ?_
  refine mx_imul d_RM_join_20 (by unfold mv_r; omega) ?_
  refine mx_iconst (2) d_RM_join_21 (by decide +kernel) (by unfold mv_r; omega) ?_
  refine mx_iadd d_RM_join_22 (by unfold mv_r; omega) ?_
  refine mx_iald d_RM_join_23 hA (by omega) (by omega) ?_
  refine mx_iadd d_RM_join_24 (by unfold mv_r; omega) ?_
  refine mx_iload_n d_RM_join_25 rfl ?_
  refine mx_iload d_RM_join_26 rfl ?_
  refine mx_iadd d_RM_join_28 (by unfold mv_r; omega) ?_
  refine mx_cS2 d_RM_join_29 c_RM_97 (by decide) (Nat.le_of_ble_eq_true rfl) ?_
  refine rf_most ?_
  refine mx_istore d_RM_join_32 (by decide) ?_
  refine mx_iload d_RM_join_34 rfl ?_
  refine mx_z0 46 d_RM_join_36 (by decide) ?_
  refine mx_aload_n d_RM_join_46 rfl (by omega) ?_
  refine mx_iconst (4) d_RM_join_47 (by decide +kernel) (by unfold mv_r; omega) ?_
  refine mx_iload_n d_RM_join_48 rfl ?_
  refine mx_imul d_RM_join_49 (by unfold mv_r; omega) ?_
  refine mx_iconst (1) d_RM_join_50 (by decide +kernel) (by unfold mv_r; omega) ?_
  refine mx_iadd d_RM_join_51 (by unfold mv_r; omega) ?_
  refine mx_iald d_RM_join_52 hA (by omega) (by omega) ?_
  refine mx_aload_n d_RM_join_53 rfl (by omega) ?_
  refine mx_iconst (4) d_RM_join_54 (by decide +kernel) (by unfold mv_r; omega) ?_
  refine mx_iload_n d_RM_join_55 rfl ?_
  refine mx_imul d_RM_join_56 (by unfold mv_r; omega) ?_
  refine mx_iconst (3) d_RM_join_57 (by decide +kernel) (by unfold mv_r; omega) ?_
  refine mx_iadd d_RM_join_58 (by unfold mv_r; omega) ?_
  refine mx_iald d_RM_join_59 hA (by omega) (by omega) ?_
  refine mx_iadd d_RM_join_60 (by unfold mv_r; omega) ?_
  refine mx_iload_n d_RM_join_61 rfl ?_
  refine mx_iload d_RM_join_62 rfl ?_
  refine mx_iadd d_RM_join_64 (by unfold mv_r; omega) ?_
  refine mx_cS2 d_RM_join_65 c_RM_97 (by decide) (Nat.le_of_ble_eq_true rfl) ?_
  refine rf_most ?_
  refine mx_istore d_RM_join_68 (by decide) ?_
  refine mx_aload_n d_RM_join_70 rfl (by omega) ?_
  refine mx_iconst (4) d_RM_join_71 (by decide +kernel) (by unfold mv_r; omega) ?_
  refine mx_iload_n d_RM_join_72 rfl ?_
  refine mx_imul d_RM_join_73 (by unfold mv_r; omega) ?_
  refine mx_iload d_RM_join_74 rfl ?_
  refine mx_z0 83 d_RM_join_76 (by decide) ?_
  refine mx_aload_n d_RM_join_83 rfl (by omega) ?_
  refine mx_iconst (4) d_RM_join_84 (by decide +kernel) (by unfold mv_r; omega) ?_
  refine mx_iload_n d_RM_join_85 rfl ?_
  refine mx_imul d_RM_join_86 (by unfold mv_r; omega) ?_
  refine mx_iald d_RM_join_87 hA (by omega) (by omega) ?_
  refine mx_iload_n d_RM_join_88 rfl ?_
  refine mx_cS2 d_RM_join_89 c_RM_91 (by decide) (Nat.le_of_ble_eq_true rfl) ?_
  refine rf_least ?_
  refine mx_iast d_RM_join_92 hA (by omega) (by omega) (by omega) ?_
  refine mx_aload_n d_RM_join_93 rfl (by omega) ?_
  refine mx_iconst (4) d_RM_join_94 (by decide +kernel) (by unfold mv_r; omega) ?_
  refine mx_iload_n d_RM_join_95 rfl ?_
  refine mx_imul d_RM_join_96 (by unfold mv_r; omega) ?_
  refine mx_iconst (1) d_RM_join_97 (by decide +kernel) (by unfold mv_r; omega) ?_
  refine mx_iadd d_RM_join_98 (by unfold mv_r; omega) ?_
  refine mx_iload d_RM_join_99 rfl ?_
  refine mx_z0 108 d_RM_join_101 (by decide) ?_
  refine mx_aload_n d_RM_join_108 rfl (by omega) ?_
  refine mx_iconst (4) d_RM_join_109 (by decide +kernel) (by unfold mv_r; omega) ?_
  refine mx_iload_n d_RM_join_110 rfl ?_
  refine mx_imul d_RM_join_111 (by unfold mv_r; omega) ?_
  refine mx_iconst (1) d_RM_join_112 (by decide +kernel) (by unfold mv_r; omega) ?_
  refine mx_iadd d_RM_join_113 (by unfold mv_r; omega) ?_
  refine mx_iald d_RM_join_114 (by rw [mv_ps]) (by omega) (by omega) ?_
  rw [mv_sn (show (4 * q + 1 : Int) ≠ 4 * q by omega)]
  refine mx_iload_n d_RM_join_115 rfl ?_
  refine mx_cS2 d_RM_join_116 c_RM_91 (by decide) (Nat.le_of_ble_eq_true rfl) ?_
  refine rf_least ?_
  refine mx_iast d_RM_join_119 (by rw [mv_ps]) (by omega) (by omega) (by omega) ?_
  refine mx_aload_n d_RM_join_120 rfl (by omega) ?_
  refine mx_iconst (4) d_RM_join_121 (by decide +kernel) (by unfold mv_r; omega) ?_
  refine mx_iload_n d_RM_join_122 rfl ?_
  refine mx_imul d_RM_join_123 (by unfold mv_r; omega) ?_
  refine mx_iconst (2) d_RM_join_124 (by decide +kernel) (by unfold mv_r; omega) ?_
  refine mx_iadd d_RM_join_125 (by unfold mv_r; omega) ?_
  refine mx_iload d_RM_join_126 rfl ?_
  refine mx_aload_n d_RM_join_128 rfl (by omega) ?_
  refine mx_iconst (4) d_RM_join_129 (by decide +kernel) (by unfold mv_r; omega) ?_
  refine mx_iload_n d_RM_join_130 rfl ?_
  refine mx_imul d_RM_join_131 (by unfold mv_r; omega) ?_
  refine mx_iald d_RM_join_132 (by rw [mv_ps]) (by omega) (by omega) ?_
  rw [mv_sn (show (4 * q : Int) ≠ 4 * q + 1 by omega), mv_ss]
  refine mx_isub d_RM_join_133 (by unfold mv_r; omega) ?_
  refine mx_iast d_RM_join_134 (by rw [mv_ps]) (by omega) (by omega) (by omega) ?_
  refine mx_aload_n d_RM_join_135 rfl (by omega) ?_
  refine mx_iconst (4) d_RM_join_136 (by decide +kernel) (by unfold mv_r; omega) ?_
  refine mx_iload_n d_RM_join_137 rfl ?_
  refine mx_imul d_RM_join_138 (by unfold mv_r; omega) ?_
  refine mx_iconst (3) d_RM_join_139 (by decide +kernel) (by unfold mv_r; omega) ?_
  refine mx_iadd d_RM_join_140 (by unfold mv_r; omega) ?_
  refine mx_iload d_RM_join_141 rfl ?_
  refine mx_aload_n d_RM_join_143 rfl (by omega) ?_
  refine mx_iconst (4) d_RM_join_144 (by decide +kernel) (by unfold mv_r; omega) ?_
  refine mx_iload_n d_RM_join_145 rfl ?_
  refine mx_imul d_RM_join_146 (by unfold mv_r; omega) ?_
  refine mx_iconst (1) d_RM_join_147 (by decide +kernel) (by unfold mv_r; omega) ?_
  refine mx_iadd d_RM_join_148 (by unfold mv_r; omega) ?_
  refine mx_iald d_RM_join_149 (by rw [mv_ps]) (by omega) (by omega) ?_
  rw [mv_sn (show (4 * q + 1 : Int) ≠ 4 * q + 2 by omega), mv_ss]
  refine mx_isub d_RM_join_150 (by unfold mv_r; omega) ?_
  refine mx_iast d_RM_join_151 (by rw [mv_ps]) (by omega) (by omega) (by omega) ?_
  refine mx_return d_RM_join_152 rfl ?_
  have hj := rf_jn_s (A := A) (q := q) (x0 := min (rf_l A q) x) (y0 := min (rf_u A q) y) (w := max (rf_r A q) (x + w) - min (rf_l A q) x) (h := max (rf_d A q) (y + h) - min (rf_u A q) y)
  rw [show min (rf_l A q) x + (max (rf_r A q) (x + w) - min (rf_l A q) x) = max (rf_r A q) (x + w) by omega, show min (rf_u A q) y + (max (rf_d A q) (y + h) - min (rf_u A q) y) = max (rf_d A q) (y + h) by omega] at hj
  exact k _ _ (bf_fr.refl.put (by omega) (by omega) |>.put (by omega) (by omega) |>.put (by omega) (by omega) |>.put (by omega) (by omega)) mv_ps hj
/-- line l of the row L is the rectangle of the boxes (or lines) of the row B below k whose label is r -/
def rf_bx (k : Int) (f B : Int → Int) (r : Int) (L : Int → Int) (l : Int) : Prop := pu_min k f r (rf_l B) (rf_l L l) ∧ pu_min k f r (rf_u B) (rf_u L l) ∧ pu_max k f r (rf_r B) (rf_r L l) ∧ pu_max k f r (rf_d B) (rf_d L l)
theorem rf_bx_ok {k : Int} {f B : Int → Int} {r : Int} {L : Int → Int} {l : Int} (h : rf_bx k f B r L l) (hb : rf_ok k B) : 0 ≤ rf_l L l ∧ rf_l L l < rf_r L l ∧ rf_r L l ≤ 4096 ∧ 0 ≤ rf_u L l ∧ rf_u L l < rf_d L l ∧ rf_d L l ≤ 4096 := by
  obtain ⟨⟨a1, a, a2, a3, a4, a5⟩, ⟨b1, b, b2, b3, b4, b5⟩, ⟨c1, c, c2, c3, c4, c5⟩, ⟨d1, d, d2, d3, d4, d5⟩⟩ := h
  have ha := hb a a2 a3
  have hb' := hb b b2 b3
  have hc := hb c c2 c3
  have hd := hb d d2 d3
  have e1 := c1 a a2 a3 a4
  have e2 := d1 b b2 b3 b4
  omega
theorem rf_bx_cg {k : Int} {f B : Int → Int} {r : Int} {L L' : Int → Int} {l : Int} (h : rf_bx k f B r L l) (e : ∀ j, 4 * l ≤ j → j < 4 * l + 4 → L' j = L j) : rf_bx k f B r L' l := by
  unfold rf_bx rf_l rf_u rf_r rf_d at *
  rw [e (4 * l) (by omega) (by omega), e (4 * l + 1) (by omega) (by omega), e (4 * l + 2) (by omega) (by omega), e (4 * l + 3) (by omega) (by omega)]
  exact h
theorem rf_bx_1 {k : Int} {f B : Int → Int} {L L' : Int → Int} {l : Int} (k0 : 0 ≤ k) (hf : ∀ j, 0 ≤ j → j < k → f j ≠ k) (hk : f k = k) (h : rf_jn L L' l (rf_l B k) (rf_u B k) (rf_r B k) (rf_d B k)) : rf_bx (k + 1) f B k L' l := by
  obtain ⟨-, h1, h2, h3, h4⟩ := h
  unfold rf_bx
  rw [h1, h2, h3, h4]
  exact ⟨pu_min_one k0 hf hk, pu_min_one k0 hf hk, pu_max_one k0 hf hk, pu_max_one k0 hf hk⟩
theorem rf_bx_m {k : Int} {f B : Int → Int} {r : Int} {L L' : Int → Int} {l : Int} (k0 : 0 ≤ k) (hb : rf_bx k f B r L l) (hk : f k = r) (h : rf_jn L L' l (min (rf_l L l) (rf_l B k)) (min (rf_u L l) (rf_u B k)) (max (rf_r L l) (rf_r B k)) (max (rf_d L l) (rf_d B k))) : rf_bx (k + 1) f B r L' l := by
  obtain ⟨-, h1, h2, h3, h4⟩ := h
  obtain ⟨g1, g2, g3, g4⟩ := hb
  unfold rf_bx
  rw [h1, h2, h3, h4]
  exact ⟨pu_min_more k0 g1 hk, pu_min_more k0 g2 hk, pu_max_more k0 g3 hk, pu_max_more k0 g4 hk⟩
theorem rf_bx_s {k : Int} {f B : Int → Int} {r : Int} {L : Int → Int} {l : Int} (hb : rf_bx k f B r L l) (hk : f k ≠ r) : rf_bx (k + 1) f B r L l := ⟨pu_min_skip hb.1 hk, pu_min_skip hb.2.1 hk, pu_max_skip hb.2.2.1 hk, pu_max_skip hb.2.2.2 hk⟩
theorem rf_rc_k {Q : List mv_V → mv_M → Prop} {M0 : mv_M} {co wi ta bo pa wy lc fo tu bl kl se ow : Int} (hO0 : rf_O M0 co wi ta bo pa wy lc fo tu bl kl se ow) {B f E : Int → Int} (hB0 : M0.2 48 = .inl (256, B)) (hf0 : M0.2 50 = .inl (64, f)) (hE0 : M0.2 52 = .inl (64, E)) (hn0 : 0 ≤ bo) (hn : bo ≤ 64) (hok : rf_ok bo B) (hlab : ∀ i, 0 ≤ i → i < bo → 0 ≤ f i ∧ f i ≤ i ∧ f (f i) = f i) (hrt : pu_rts bo f lc E) (hlc : lc ≤ 64) {l : Int} (l0 : 0 ≤ l) (l1 : l < lc) {L0 : Int → Int} (kk : ∀ M' L kv, bf_fr M0 M' 51 52 → M'.2 51 = .inl (256, L) → (∀ j, (j < 4 * l ∨ 4 * l + 4 ≤ j) → L j = L0 j) → rf_bx bo f B (E l) L l → mv_W md_RM_rectangles 102 [.inr 47, .inl l, kv] [] M' (0, 0) Q) : ∀ (d : Nat) (k : Int) (M : mv_M) (L : Int → Int), bo - k < d → 0 ≤ k → k ≤ bo → bf_fr M0 M 51 52 → M.2 51 = .inl (256, L) → (∀ j, (j < 4 * l ∨ 4 * l + 4 ≤ j) → L j = L0 j) → (E l < k → rf_bx k f B (E l) L l) → mv_W md_RM_rectangles 12 [.inr 47, .inl l, .inl k] [] M (0, 0) Q := by
  intro d
  induction d with
  | zero =>
    intro k M L hd k0 k1 hfr hLin hI1 hI2
    exfalso; omega
  | succ d ih =>
    intro k M L hd k0 k1 hfr hLin hI1 hI2
    have hO : rf_O M co wi ta bo pa wy lc fo tu bl kl se ow := by unfold rf_O; rw [hfr 47 (by omega)]; exact hO0
    have hBox : M.2 48 = .inl (256, B) := by rw [hfr 48 (by omega)]; exact hB0
    have hLof : M.2 50 = .inl (64, f) := by rw [hfr 50 (by omega)]; exact hf0
    have hLle : M.2 52 = .inl (64, E) := by rw [hfr 52 (by omega)]; exact hE0
    have hEl := hrt.2.1 l l0 l1
    refine mx_iload_n d_RM_rectangles_12 rfl ?_
    refine mx_aload_n d_RM_rectangles_13 rfl (by omega) ?_
    refine mx_gl d_RM_rectangles_14 f_RM_73 hO rfl ?_
    refine mx_icmp_ge 102 d_RM_rectangles_17 (by decide) (fun c17 => ?_) (fun c17 => ?_)
    · skip
      exact kk M L _ hfr hLin hI1 ((show k = bo by omega) ▸ hI2 (by omega))
    · skip
      refine mx_aload_n d_RM_rectangles_20 rfl (by omega) ?_
      refine mx_gl d_RM_rectangles_21 f_RM_16 hO rfl ?_
      refine mx_iload_n d_RM_rectangles_24 rfl ?_
      refine mx_iald d_RM_rectangles_25 hLof (by omega) (by omega) ?_
      refine mx_aload_n d_RM_rectangles_26 rfl (by omega) ?_
      refine mx_gl d_RM_rectangles_27 f_RM_22 hO rfl ?_
      refine mx_iload_n d_RM_rectangles_30 rfl ?_
      refine mx_iald d_RM_rectangles_31 hLle (by omega) (by omega) ?_
      refine mx_icmp_ne 96 d_RM_rectangles_32 (by decide) (fun c32 => ?_) (fun c32 => ?_)
      · skip
        refine mx_iinc d_RM_rectangles_96 rfl (by unfold mv_r; omega) ?_
        refine mx_goto 12 d_RM_rectangles_99 (by decide) ?_
        exact ih (k + 1) M L (by omega) (by omega) (by omega) hfr hLin hI1 (fun hlt => rf_bx_s (hI2 (by
          by_cases hke : E l = k
          · exfalso; rw [hke] at hEl c32; omega
          · omega)) c32)
      · skip
        have hw : rf_l B k = B (4 * k) ∧ rf_u B k = B (4 * k + 1) ∧ rf_r B k = B (4 * k) + B (4 * k + 2) ∧ rf_d B k = B (4 * k + 1) + B (4 * k + 3) := ⟨rfl, rfl, rfl, rfl⟩
        have hbk := hok k k0 (by omega)
        refine mx_aload_n d_RM_rectangles_35 rfl (by omega) ?_
        refine mx_gl d_RM_rectangles_36 f_RM_19 hO rfl ?_
        refine mx_iload_n d_RM_rectangles_39 rfl ?_
        refine mx_aload_n d_RM_rectangles_40 rfl (by omega) ?_
        refine mx_gl d_RM_rectangles_41 f_RM_7 hO rfl ?_
        refine mx_iconst (4) d_RM_rectangles_44 (by decide +kernel) (by unfold mv_r; omega) ?_
        refine mx_iload_n d_RM_rectangles_45 rfl ?_
        refine mx_imul d_RM_rectangles_46 (by unfold mv_r; omega) ?_
        refine mx_iald d_RM_rectangles_47 hBox (by omega) (by omega) ?_
        refine mx_aload_n d_RM_rectangles_48 rfl (by omega) ?_
        refine mx_gl d_RM_rectangles_49 f_RM_7 hO rfl ?_
        refine mx_iconst (4) d_RM_rectangles_52 (by decide +kernel) (by unfold mv_r; omega) ?_
        refine mx_iload_n d_RM_rectangles_53 rfl ?_
        refine mx_imul d_RM_rectangles_54 (by unfold mv_r; omega) ?_
        refine mx_iconst (1) d_RM_rectangles_55 (by decide +kernel) (by unfold mv_r; omega) ?_
        refine mx_iadd d_RM_rectangles_56 (by unfold mv_r; omega) ?_
        refine mx_iald d_RM_rectangles_57 hBox (by omega) (by omega) ?_
        refine mx_aload_n d_RM_rectangles_58 rfl (by omega) ?_
        refine mx_gl d_RM_rectangles_59 f_RM_7 hO rfl ?_
        refine mx_iconst (4) d_RM_rectangles_62 (by decide +kernel) (by unfold mv_r; omega) ?_
        refine mx_iload_n d_RM_rectangles_63 rfl ?_
        refine mx_imul d_RM_rectangles_64 (by unfold mv_r; omega) ?_
        refine mx_iconst (2) d_RM_rectangles_65 (by decide +kernel) (by unfold mv_r; omega) ?_
        refine mx_iadd d_RM_rectangles_66 (by unfold mv_r; omega) ?_
        refine mx_iald d_RM_rectangles_67 hBox (by omega) (by omega) ?_
        refine mx_aload_n d_RM_rectangles_68 rfl (by omega) ?_
        refine mx_gl d_RM_rectangles_69 f_RM_7 hO rfl ?_
        refine mx_iconst (4) d_RM_rectangles_72 (by decide +kernel) (by unfold mv_r; omega) ?_
        refine mx_iload_n d_RM_rectangles_73 rfl ?_
        refine mx_imul d_RM_rectangles_74 (by unfold mv_r; omega) ?_
        refine mx_iconst (3) d_RM_rectangles_75 (by decide +kernel) (by unfold mv_r; omega) ?_
        refine mx_iadd d_RM_rectangles_76 (by unfold mv_r; omega) ?_
        refine mx_iald d_RM_rectangles_77 hBox (by omega) (by omega) ?_
        refine mx_iload_n d_RM_rectangles_78 rfl ?_
        refine mx_aload_n d_RM_rectangles_79 rfl (by omega) ?_
        refine mx_gl d_RM_rectangles_80 f_RM_22 hO rfl ?_
        refine mx_iload_n d_RM_rectangles_83 rfl ?_
        refine mx_iald d_RM_rectangles_84 hLle (by omega) (by omega) ?_
        refine mx_icmp_ne 92 d_RM_rectangles_85 (by decide) (fun c85 => ?_) (fun c85 => ?_)
        · skip
          refine mx_iconst (0) d_RM_rectangles_92 (by decide +kernel) (by unfold mv_r; omega) ?_
          refine mx_cS7 d_RM_rectangles_93 c_RM_116 (by decide) (Nat.le_of_ble_eq_true rfl) ?_
          have hEk := hlab k k0 (by omega)
          have hprev := hI2 (by omega)
          have hpb := rf_bx_ok hprev (fun j j0 j1 => hok j j0 (by omega))
          refine rf_join0 (by omega) hLin l0 (by omega) (by omega) (by omega) (by omega) (by omega) (by omega) (by omega) hpb (fun M' L' hfr' hLin' hj => ?_)
          have hj2 : rf_jn L L' l (min (rf_l L l) (rf_l B k)) (min (rf_u L l) (rf_u B k)) (max (rf_r L l) (rf_r B k)) (max (rf_d L l) (rf_d B k)) := hj
          have hbx : rf_bx (k + 1) f B (E l) L' l := rf_bx_m k0 hprev (by omega) hj2
          refine mx_iinc d_RM_rectangles_96 rfl (by unfold mv_r; omega) ?_
          refine mx_goto 12 d_RM_rectangles_99 (by decide) ?_
          exact ih (k + 1) M' L' (by omega) (by omega) (by omega) (hfr.trans hfr') hLin' (fun j hj' => by rw [hj.1 j hj', hI1 j hj']) (fun _ => hbx)
        · skip
          refine mx_iconst (1) d_RM_rectangles_88 (by decide +kernel) (by unfold mv_r; omega) ?_
          refine mx_goto 93 d_RM_rectangles_89 (by decide) ?_
          refine mx_cS7 d_RM_rectangles_93 c_RM_116 (by decide) (Nat.le_of_ble_eq_true rfl) ?_
          refine rf_join1 (by omega) hLin l0 (by omega) (by omega) (by omega) (by omega) (by omega) (by omega) (by omega) (fun M' L' hfr' hLin' hj => ?_)
          have hke : k = E l := by omega
          have hj2 : rf_jn L L' l (rf_l B k) (rf_u B k) (rf_r B k) (rf_d B k) := hj
          have hbx : rf_bx (k + 1) f B (E l) L' l := hke ▸ rf_bx_1 k0 (fun j j0 j1 => by have := hlab j j0 (by omega); omega) (by omega) hj2
          refine mx_iinc d_RM_rectangles_96 rfl (by unfold mv_r; omega) ?_
          refine mx_goto 12 d_RM_rectangles_99 (by decide) ?_
          exact ih (k + 1) M' L' (by omega) (by omega) (by omega) (hfr.trans hfr') hLin' (fun j hj' => by rw [hj.1 j hj', hI1 j hj']) (fun _ => hbx)
theorem rf_rc_l {Q : List mv_V → mv_M → Prop} {M0 : mv_M} {co wi ta bo pa wy lc fo tu bl kl se ow : Int} (hO0 : rf_O M0 co wi ta bo pa wy lc fo tu bl kl se ow) {B f E : Int → Int} (hB0 : M0.2 48 = .inl (256, B)) (hf0 : M0.2 50 = .inl (64, f)) (hE0 : M0.2 52 = .inl (64, E)) (hn0 : 0 ≤ bo) (hn : bo ≤ 64) (hok : rf_ok bo B) (hlab : ∀ i, 0 ≤ i → i < bo → 0 ≤ f i ∧ f i ≤ i ∧ f (f i) = f i) (hrt : pu_rts bo f lc E) (hlc : lc ≤ 64) (k : ∀ M' L, bf_fr M0 M' 51 52 → M'.2 51 = .inl (256, L) → (∀ l, 0 ≤ l → l < lc → rf_bx bo f B (E l) L l) → Q [] M') : ∀ (d : Nat) (l : Int) (M : mv_M) (L : Int → Int) (kv : mv_V), lc - l < d → 0 ≤ l → l ≤ lc → bf_fr M0 M 51 52 → M.2 51 = .inl (256, L) → (∀ q, 0 ≤ q → q < l → rf_bx bo f B (E q) L q) → mv_W md_RM_rectangles 2 [.inr 47, .inl l, kv] [] M (0, 0) Q := by
  intro d
  induction d with
  | zero =>
    intro l M L kv hd l0 l1 hfr hLin hI
    exfalso; omega
  | succ d ih =>
    intro l M L kv hd l0 l1 hfr hLin hI
    have hO : rf_O M co wi ta bo pa wy lc fo tu bl kl se ow := by unfold rf_O; rw [hfr 47 (by omega)]; exact hO0
    have hBox : M.2 48 = .inl (256, B) := by rw [hfr 48 (by omega)]; exact hB0
    have hLof : M.2 50 = .inl (64, f) := by rw [hfr 50 (by omega)]; exact hf0
    have hLle : M.2 52 = .inl (64, E) := by rw [hfr 52 (by omega)]; exact hE0
    refine mx_iload_n d_RM_rectangles_2 rfl ?_
    refine mx_aload_n d_RM_rectangles_3 rfl (by omega) ?_
    refine mx_gl d_RM_rectangles_4 f_RM_113 hO rfl ?_
    refine mx_icmp_ge 108 d_RM_rectangles_7 (by decide) (fun c7 => ?_) (fun c7 => ?_)
    · skip
      refine mx_return d_RM_rectangles_108 rfl ?_
      exact k M L hfr hLin (fun q q0 q1 => hI q q0 (by omega))
    · skip
      refine mx_iconst (0) d_RM_rectangles_10 (by decide +kernel) (by unfold mv_r; omega) ?_
      refine mx_istore_n d_RM_rectangles_11 (by decide) ?_
      have hEl := hrt.2.1 l l0 (by omega)
      refine rf_rc_k hO0 hB0 hf0 hE0 hn0 hn hok hlab hrt hlc l0 (by omega) (L0 := L) ?_ (bo.toNat + 1) 0 M L (by omega) (by omega) hn0 hfr hLin (fun j _ => rfl) (fun q => by omega)
      intro M' L' kv' hfr' hLin' hj' hb'
      refine mx_iinc d_RM_rectangles_102 rfl (by unfold mv_r; omega) ?_
      refine mx_goto 2 d_RM_rectangles_105 (by decide) ?_
      exact ih (l + 1) M' L' _ (by omega) (by omega) (by omega) hfr' hLin' (fun q q0 q1 => by
        by_cases hq : q = l
        · rw [hq]; exact hb'
        · exact rf_bx_cg (hI q q0 (by omega)) (fun j j0 j1 => hj' j (by omega)))
theorem rf_rectangles {Q : List mv_V → mv_M → Prop} {M : mv_M} {co wi ta bo pa wy lc fo tu bl kl se ow : Int} (hO0 : rf_O M co wi ta bo pa wy lc fo tu bl kl se ow) {B f E : Int → Int} (hB0 : M.2 48 = .inl (256, B)) (hf0 : M.2 50 = .inl (64, f)) (hE0 : M.2 52 = .inl (64, E)) (hn0 : 0 ≤ bo) (hn : bo ≤ 64) (hok : rf_ok bo B) (hlab : ∀ i, 0 ≤ i → i < bo → 0 ≤ f i ∧ f i ≤ i ∧ f (f i) = f i) (hrt : pu_rts bo f lc E) (hlc : lc ≤ 64) {L0 : Int → Int} (hL0 : M.2 51 = .inl (256, L0)) (hlc0 : 0 ≤ lc) (k : ∀ M' L, bf_fr M M' 51 52 → M'.2 51 = .inl (256, L) → (∀ l, 0 ≤ l → l < lc → rf_bx bo f B (E l) L l) → Q [] M') : mv_J md_RM_rectangles [.inr 47] M Q := by
  refine mv_enter (by decide +kernel) (Nat.le_of_ble_eq_true rfl) ?_
  show mv_W md_RM_rectangles 0 [.inr 47, .inr 0, .inr 0] [] M (0, 0) Q
  refine mx_iconst (0) d_RM_rectangles_0 (by decide +kernel) (by unfold mv_r; omega) ?_
  refine mx_istore_n d_RM_rectangles_1 (by decide) ?_
  exact rf_rc_l hO0 hB0 hf0 hE0 hn0 hn hok hlab hrt hlc k (lc.toNat + 1) 0 M L0 (.inr 0) (by omega) (by omega) hlc0 bf_fr.refl hL0 (fun q q0 q1 => by omega)
end
