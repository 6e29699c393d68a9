/-- the tables' words that stay -/
def mv_tb : List Cond := lw_tbl.filter goodWord
theorem mv_gd : GoodIn mv_tb mv_tb := fun w hw => ⟨hw, good_of_word (List.mem_filter.mp hw).2⟩
theorem mv_in {w : Cond} (i : Nat) (h : tables_1[i]? = some w) (hg : goodWord w = true) : w ∈ mv_tb := List.mem_filter.mpr ⟨List.mem_append_right _ (List.mem_of_getElem? h), hg⟩
theorem mv_inS {w : Cond} (i : Nat) (h : (k2_sels lw_privs)[i]? = some w) (hg : goodWord w = true) : w ∈ mv_tb := List.mem_filter.mpr ⟨List.mem_append_left _ (List.mem_of_getElem? h), hg⟩
def mv_ne : List (String × Nat × MethodName × String) := [("BlockFinder", 23, ⟨"BlockFinder$Sets", "<init>", "()V"⟩, "BlockFinder"), ("BlockFinder", 36, ⟨"BlockFinder$Groups", "<init>", "()V"⟩, "BlockFinder")]
theorem mv_ne_in : ∀ q ∈ mv_ne, Cond.methodLinkNest q.1 q.2.1 q.2.2.1 q.2.2.2 ∈ lw_tbl := List.forall_mem_cons.mpr ⟨List.mem_append_right _ (List.mem_of_getElem? (i := 53) (by decide +kernel)), List.forall_mem_cons.mpr ⟨List.mem_append_right _ (List.mem_of_getElem? (i := 71) (by decide +kernel)), fun _ h => absurd h List.not_mem_nil⟩⟩
/-- the words of private constructors of nest mates -/
def mv_nw (U : State) : Prop := ∀ q ∈ mv_ne, va_Nw (.methodLinkNest q.1 q.2.1 q.2.2.1 q.2.2.2) U
/-! names: fields, classes, methods, links; printed by wip/whole/names.py out of the task's listing -/
def nR_G : String := "BlockFinder$Groups"
def nT_G : u_T := fun k => match k with
  | 0 => ("BlockFinder$Groups", "rectangles", "LBlockFinder$Rectangles;", true)
  | 1 => ("BlockFinder$Groups", "parts", "[I", true)
  | 2 => ("BlockFinder$Groups", "leastPart", "[I", true)
  | 3 => ("BlockFinder$Groups", "points", "[I", true)
  | 4 => ("BlockFinder$Groups", "groupOf", "[I", true)
  | 5 => ("BlockFinder$Groups", "order", "[I", true)
  | _ => ("BlockFinder$Groups", "place", "[I", true)
def ny_G : Nat → FieldType := fun k => match k with
  | 0 => .object "BlockFinder$Rectangles"
  | 1 => .array .int
  | 2 => .array .int
  | 3 => .array .int
  | 4 => .array .int
  | 5 => .array .int
  | _ => .array .int
theorem nn_G : ∀ a, a < 7 → ∀ b, b < 7 → a ≠ b → (nT_G a).2.1 ≠ (nT_G b).2.1 := by decide +kernel
theorem nt_G : ∀ k, k < 7 → parseFieldDescriptor (nT_G k).2.2.1 = some (ny_G k) := by decide +kernel
def nR_R : String := "BlockFinder$Rectangles"
def nT_R : u_T := fun k => match k with
  | 0 => ("BlockFinder$Rectangles", "left", "[I", true)
  | 1 => ("BlockFinder$Rectangles", "upper", "[I", true)
  | 2 => ("BlockFinder$Rectangles", "right", "[I", true)
  | 3 => ("BlockFinder$Rectangles", "lower", "[I", true)
  | _ => ("BlockFinder$Rectangles", "count", "I", false)
def ny_R : Nat → FieldType := fun k => match k with
  | 0 => .array .int
  | 1 => .array .int
  | 2 => .array .int
  | 3 => .array .int
  | _ => .int
theorem nn_R : ∀ a, a < 5 → ∀ b, b < 5 → a ≠ b → (nT_R a).2.1 ≠ (nT_R b).2.1 := by decide +kernel
theorem nt_R : ∀ k, k < 5 → parseFieldDescriptor (nT_R k).2.2.1 = some (ny_R k) := by decide +kernel
def nR_S : String := "BlockFinder$Sets"
def nT_S : u_T := fun k => match k with
  | 0 => ("BlockFinder$Sets", "least", "[I", true)
  | 1 => ("BlockFinder$Sets", "members", "I", false)
  | _ => ("BlockFinder$Sets", "count", "I", false)
def ny_S : Nat → FieldType := fun k => match k with
  | 0 => .array .int
  | 1 => .int
  | _ => .int
theorem nn_S : ∀ a, a < 3 → ∀ b, b < 3 → a ≠ b → (nT_S a).2.1 ≠ (nT_S b).2.1 := by decide +kernel
theorem nt_S : ∀ k, k < 3 → parseFieldDescriptor (nT_S k).2.2.1 = some (ny_S k) := by decide +kernel
def nR_BF : String := "BlockFinder"
def nT_BF : u_T := fun k => match k with
  | 0 => ("BlockFinder", "sheetWidth", "I", true)
  | 1 => ("BlockFinder", "sheetHeight", "I", true)
  | 2 => ("BlockFinder", "boxes", "LBlockFinder$Rectangles;", true)
  | 3 => ("BlockFinder", "panes", "LBlockFinder$Rectangles;", true)
  | 4 => ("BlockFinder", "standingLines", "LBlockFinder$Sets;", true)
  | 5 => ("BlockFinder", "turnedLines", "LBlockFinder$Sets;", true)
  | 6 => ("BlockFinder", "nearLines", "LBlockFinder$Sets;", true)
  | 7 => ("BlockFinder", "lines", "LBlockFinder$Groups;", true)
  | 8 => ("BlockFinder", "blocks", "LBlockFinder$Groups;", true)
  | 9 => ("BlockFinder", "blockSize", "[I", true)
  | 10 => ("BlockFinder", "highestBox", "[I", true)
  | 11 => ("BlockFinder", "lowestBox", "[I", true)
  | 12 => ("BlockFinder", "placeOfBox", "[I", true)
  | _ => ("BlockFinder", "foundTurned", "Z", false)
def ny_BF : Nat → FieldType := fun k => match k with
  | 0 => .int
  | 1 => .int
  | 2 => .object "BlockFinder$Rectangles"
  | 3 => .object "BlockFinder$Rectangles"
  | 4 => .object "BlockFinder$Sets"
  | 5 => .object "BlockFinder$Sets"
  | 6 => .object "BlockFinder$Sets"
  | 7 => .object "BlockFinder$Groups"
  | 8 => .object "BlockFinder$Groups"
  | 9 => .array .int
  | 10 => .array .int
  | 11 => .array .int
  | 12 => .array .int
  | _ => .boolean
theorem nn_BF : ∀ a, a < 14 → ∀ b, b < 14 → a ≠ b → (nT_BF a).2.1 ≠ (nT_BF b).2.1 := by decide +kernel
theorem nt_BF : ∀ k, k < 14 → parseFieldDescriptor (nT_BF k).2.2.1 = some (ny_BF k) := by decide +kernel
def nR_RM : String := "BlockFinderModel"
def nT_RM : u_T := fun k => match k with
  | 0 => ("BlockFinderModel", "code", "I", false)
  | 1 => ("BlockFinderModel", "wide", "I", true)
  | 2 => ("BlockFinderModel", "tall", "I", true)
  | 3 => ("BlockFinderModel", "boxes", "I", false)
  | 4 => ("BlockFinderModel", "box", "[I", true)
  | 5 => ("BlockFinderModel", "panes", "I", false)
  | 6 => ("BlockFinderModel", "pane", "[I", true)
  | 7 => ("BlockFinderModel", "way", "Z", false)
  | 8 => ("BlockFinderModel", "lineOf", "[I", true)
  | 9 => ("BlockFinderModel", "lineCount", "I", false)
  | 10 => ("BlockFinderModel", "line", "[I", true)
  | 11 => ("BlockFinderModel", "lineLeast", "[I", true)
  | 12 => ("BlockFinderModel", "blockOf", "[I", true)
  | 13 => ("BlockFinderModel", "found", "Z", false)
  | 14 => ("BlockFinderModel", "turned", "Z", false)
  | 15 => ("BlockFinderModel", "blocks", "I", false)
  | 16 => ("BlockFinderModel", "block", "[I", true)
  | 17 => ("BlockFinderModel", "blockLeast", "[I", true)
  | 18 => ("BlockFinderModel", "points", "[I", true)
  | 19 => ("BlockFinderModel", "isPrinted", "[Z", true)
  | 20 => ("BlockFinderModel", "order", "[I", true)
  | 21 => ("BlockFinderModel", "keptLines", "I", false)
  | 22 => ("BlockFinderModel", "kept", "[I", true)
  | 23 => ("BlockFinderModel", "keptLeast", "[I", true)
  | 24 => ("BlockFinderModel", "keptBoxes", "[I", true)
  | 25 => ("BlockFinderModel", "keptBlock", "[I", true)
  | 26 => ("BlockFinderModel", "seen", "I", false)
  | 27 => ("BlockFinderModel", "inBlock", "[I", true)
  | _ => ("BlockFinderModel", "ownLines", "I", false)
def ny_RM : Nat → FieldType := fun k => match k with
  | 0 => .int
  | 1 => .int
  | 2 => .int
  | 3 => .int
  | 4 => .array .int
  | 5 => .int
  | 6 => .array .int
  | 7 => .boolean
  | 8 => .array .int
  | 9 => .int
  | 10 => .array .int
  | 11 => .array .int
  | 12 => .array .int
  | 13 => .boolean
  | 14 => .boolean
  | 15 => .int
  | 16 => .array .int
  | 17 => .array .int
  | 18 => .array .int
  | 19 => .array .boolean
  | 20 => .array .int
  | 21 => .int
  | 22 => .array .int
  | 23 => .array .int
  | 24 => .array .int
  | 25 => .array .int
  | 26 => .int
  | 27 => .array .int
  | _ => .int
theorem nn_RM : ∀ a, a < 29 → ∀ b, b < 29 → a ≠ b → (nT_RM a).2.1 ≠ (nT_RM b).2.1 := by decide +kernel
theorem nt_RM : ∀ k, k < 29 → parseFieldDescriptor (nT_RM k).2.2.1 = some (ny_RM k) := by decide +kernel
abbrev classes : List vw_C := [(nR_G, nT_G, 7), (nR_R, nT_R, 5), (nR_S, nT_S, 3), (nR_BF, nT_BF, 14), (nR_RM, nT_RM, 29)]
abbrev ki_G : Nat := 0
abbrev ki_R : Nat := 1
abbrev ki_S : Nat := 2
abbrev ki_BF : Nat := 3
abbrev ki_RM : Nat := 4
theorem ni_G : ∀ w ∈ u_ws nR_G nT_G 7, w ∈ mv_tb := by decide +kernel
theorem ni_R : ∀ w ∈ u_ws nR_R nT_R 5, w ∈ mv_tb := by decide +kernel
theorem ni_S : ∀ w ∈ u_ws nR_S nT_S 3, w ∈ mv_tb := by decide +kernel
theorem ni_BF : ∀ w ∈ u_ws nR_BF nT_BF 14, w ∈ mv_tb := by decide +kernel
theorem ni_RM : ∀ w ∈ u_ws nR_RM nT_RM 29, w ∈ mv_tb := by decide +kernel
theorem mv_good {c : Cond} (h : c ∈ mv_tb) : GoodIn mv_tb (c :: mv_tb) := fun w hw => (List.mem_cons.mp hw).elim (fun e => e ▸ mv_gd c h) (mv_gd w)
