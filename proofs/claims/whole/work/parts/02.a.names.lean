/-- the words that every method takes along: those of the tables that no walk moves -/
def gt : List Cond := lw_tbl.filter goodWord
theorem gt_good : ∀ w ∈ gt, (w.onTables && w.keeps) = true ∨ ∃ ty, w = .arrayClass ty := fun w h => good_of_word (List.mem_filter.mp h).2
theorem gtm {w : Cond} (i : Nat) (h : tables_1[i]? = some w) (hg : goodWord w = true) : w ∈ gt := List.mem_filter.mpr ⟨List.mem_append_right _ (List.mem_of_getElem? h), hg⟩
theorem gts {q : MethodName × Nat} (i : Nat) (h : lw_privs[i]? = some q) (hg : goodWord (Cond.selects q.1.cls q.1 q.1) = true) : Cond.selects q.1.cls q.1 q.1 ∈ gt := List.mem_filter.mpr ⟨List.mem_append_left _ (List.mem_map.mpr ⟨q, List.mem_of_getElem? h, rfl⟩), hg⟩
theorem gta {L : List Cond} (h : L.all (fun w => decide (w ∈ tables_1) && goodWord w) = true) : ∀ w ∈ L, w ∈ gt := fun w hw => by
  have h1 := List.all_eq_true.mp h w hw
  rw [Bool.and_eq_true, decide_eq_true_eq] at h1
  exact List.mem_filter.mpr ⟨List.mem_append_right _ h1.1, h1.2⟩
abbrev R_Co : String := "PascalMachine$Code"
def F_Co : u_T := fun k => match k with
  | 0 => ("PascalMachine$Code", "operations", "[I", true)
  | 1 => ("PascalMachine$Code", "firsts", "[I", true)
  | 2 => ("PascalMachine$Code", "seconds", "[I", true)
  | 3 => ("PascalMachine$Code", "entries", "[I", true)
  | 4 => ("PascalMachine$Code", "parameters", "[I", true)
  | 5 => ("PascalMachine$Code", "references", "[I", true)
  | 6 => ("PascalMachine$Code", "size", "I", false)
  | _ => ("PascalMachine$Code", "start", "I", false)
def t_Co : Nat → FieldType := fun k => match k with
  | 0 => .array .int
  | 1 => .array .int
  | 2 => .array .int
  | 3 => .array .int
  | 4 => .array .int
  | 5 => .array .int
  | 6 => .int
  | _ => .int
theorem n_Co : ∀ a, a < 8 → ∀ b, b < 8 → a ≠ b → (F_Co a).2.1 ≠ (F_Co b).2.1 := by decide +kernel
theorem t_Co_ok : ∀ k, k < 8 → parseFieldDescriptor (F_Co k).2.2.1 = some (t_Co k) := by decide +kernel
theorem in_Co : ∀ w ∈ u_ws R_Co F_Co 8, w ∈ gt := gta (by decide +kernel)
abbrev R_Cp : String := "PascalMachine$Compiler"
def F_Cp : u_T := fun k => match k with
  | 0 => ("PascalMachine$Compiler", "tokens", "LPascalMachine$Tokens;", true)
  | 1 => ("PascalMachine$Compiler", "names", "LPascalMachine$Names;", true)
  | 2 => ("PascalMachine$Compiler", "code", "LPascalMachine$Code;", false)
  | _ => ("PascalMachine$Compiler", "faultPlace", "I", false)
def t_Cp : Nat → FieldType := fun k => match k with
  | 0 => .object "PascalMachine$Tokens"
  | 1 => .object "PascalMachine$Names"
  | 2 => .object "PascalMachine$Code"
  | _ => .int
theorem n_Cp : ∀ a, a < 4 → ∀ b, b < 4 → a ≠ b → (F_Cp a).2.1 ≠ (F_Cp b).2.1 := by decide +kernel
theorem t_Cp_ok : ∀ k, k < 4 → parseFieldDescriptor (F_Cp k).2.2.1 = some (t_Cp k) := by decide +kernel
theorem in_Cp : ∀ w ∈ u_ws R_Cp F_Cp 4, w ∈ gt := gta (by decide +kernel)
abbrev R_Mc : String := "PascalMachine$Machine"
def F_Mc : u_T := fun k => match k with
  | 0 => ("PascalMachine$Machine", "program", "LPascalMachine$Code;", false)
  | 1 => ("PascalMachine$Machine", "cells", "[I", true)
  | 2 => ("PascalMachine$Machine", "outerFrames", "[I", true)
  | 3 => ("PascalMachine$Machine", "returns", "[I", true)
  | 4 => ("PascalMachine$Machine", "stack", "[I", true)
  | 5 => ("PascalMachine$Machine", "top", "I", false)
  | 6 => ("PascalMachine$Machine", "depth", "I", false)
  | 7 => ("PascalMachine$Machine", "next", "I", false)
  | 8 => ("PascalMachine$Machine", "values", "[I", true)
  | 9 => ("PascalMachine$Machine", "written", "I", false)
  | 10 => ("PascalMachine$Machine", "lost", "I", false)
  | 11 => ("PascalMachine$Machine", "steps", "I", false)
  | _ => ("PascalMachine$Machine", "deepest", "I", false)
def t_Mc : Nat → FieldType := fun k => match k with
  | 0 => .object "PascalMachine$Code"
  | 1 => .array .int
  | 2 => .array .int
  | 3 => .array .int
  | 4 => .array .int
  | 5 => .int
  | 6 => .int
  | 7 => .int
  | 8 => .array .int
  | 9 => .int
  | 10 => .int
  | 11 => .int
  | _ => .int
theorem n_Mc : ∀ a, a < 13 → ∀ b, b < 13 → a ≠ b → (F_Mc a).2.1 ≠ (F_Mc b).2.1 := by decide +kernel
theorem t_Mc_ok : ∀ k, k < 13 → parseFieldDescriptor (F_Mc k).2.2.1 = some (t_Mc k) := by decide +kernel
theorem in_Mc : ∀ w ∈ u_ws R_Mc F_Mc 13, w ∈ gt := gta (by decide +kernel)
abbrev R_Nm : String := "PascalMachine$Names"
def F_Nm : u_T := fun k => match k with
  | 0 => ("PascalMachine$Names", "words", "[J", true)
  | 1 => ("PascalMachine$Names", "kinds", "[I", true)
  | 2 => ("PascalMachine$Names", "levels", "[I", true)
  | 3 => ("PascalMachine$Names", "numbers", "[I", true)
  | 4 => ("PascalMachine$Names", "slots", "[I", true)
  | 5 => ("PascalMachine$Names", "known", "I", false)
  | 6 => ("PascalMachine$Names", "level", "I", false)
  | 7 => ("PascalMachine$Names", "variables", "I", false)
  | _ => ("PascalMachine$Names", "procedures", "I", false)
def t_Nm : Nat → FieldType := fun k => match k with
  | 0 => .array .long
  | 1 => .array .int
  | 2 => .array .int
  | 3 => .array .int
  | 4 => .array .int
  | 5 => .int
  | 6 => .int
  | 7 => .int
  | _ => .int
theorem n_Nm : ∀ a, a < 9 → ∀ b, b < 9 → a ≠ b → (F_Nm a).2.1 ≠ (F_Nm b).2.1 := by decide +kernel
theorem t_Nm_ok : ∀ k, k < 9 → parseFieldDescriptor (F_Nm k).2.2.1 = some (t_Nm k) := by decide +kernel
theorem in_Nm : ∀ w ∈ u_ws R_Nm F_Nm 9, w ∈ gt := gta (by decide +kernel)
abbrev R_Tk : String := "PascalMachine$Tokens"
def F_Tk : u_T := fun k => match k with
  | 0 => ("PascalMachine$Tokens", "kinds", "[LPascalMachine$Kind;", true)
  | 1 => ("PascalMachine$Tokens", "places", "[I", true)
  | 2 => ("PascalMachine$Tokens", "contents", "[J", true)
  | 3 => ("PascalMachine$Tokens", "text", "[C", false)
  | 4 => ("PascalMachine$Tokens", "length", "I", false)
  | 5 => ("PascalMachine$Tokens", "end", "I", false)
  | _ => ("PascalMachine$Tokens", "current", "I", false)
def t_Tk : Nat → FieldType := fun k => match k with
  | 0 => .array (.object "PascalMachine$Kind")
  | 1 => .array .int
  | 2 => .array .long
  | 3 => .array .char
  | 4 => .int
  | 5 => .int
  | _ => .int
theorem n_Tk : ∀ a, a < 7 → ∀ b, b < 7 → a ≠ b → (F_Tk a).2.1 ≠ (F_Tk b).2.1 := by decide +kernel
theorem t_Tk_ok : ∀ k, k < 7 → parseFieldDescriptor (F_Tk k).2.2.1 = some (t_Tk k) := by decide +kernel
theorem in_Tk : ∀ w ∈ u_ws R_Tk F_Tk 7, w ∈ gt := gta (by decide +kernel)
abbrev R_PM : String := "PascalMachine"
def F_PM : u_T := fun k => match k with
  | 0 => ("PascalMachine", "text", "[C", true)
  | 1 => ("PascalMachine", "length", "I", false)
  | 2 => ("PascalMachine", "compiler", "LPascalMachine$Compiler;", true)
  | 3 => ("PascalMachine", "machine", "LPascalMachine$Machine;", true)
  | _ => ("PascalMachine", "hasProgram", "Z", false)
def t_PM : Nat → FieldType := fun k => match k with
  | 0 => .array .char
  | 1 => .int
  | 2 => .object "PascalMachine$Compiler"
  | 3 => .object "PascalMachine$Machine"
  | _ => .boolean
theorem n_PM : ∀ a, a < 5 → ∀ b, b < 5 → a ≠ b → (F_PM a).2.1 ≠ (F_PM b).2.1 := by decide +kernel
theorem t_PM_ok : ∀ k, k < 5 → parseFieldDescriptor (F_PM k).2.2.1 = some (t_PM k) := by decide +kernel
theorem in_PM : ∀ w ∈ u_ws R_PM F_PM 5, w ∈ gt := gta (by decide +kernel)
abbrev R_Mo : String := "PascalMachineModel"
def F_Mo : u_T := fun k => match k with
  | 0 => ("PascalMachineModel", "thrown", "I", false)
  | 1 => ("PascalMachineModel", "text", "[I", true)
  | 2 => ("PascalMachineModel", "length", "I", false)
  | 3 => ("PascalMachineModel", "kind", "[I", true)
  | 4 => ("PascalMachineModel", "word", "[J", true)
  | 5 => ("PascalMachineModel", "from", "[I", true)
  | 6 => ("PascalMachineModel", "to", "[I", true)
  | 7 => ("PascalMachineModel", "means", "[I", true)
  | 8 => ("PascalMachineModel", "next", "[I", true)
  | 9 => ("PascalMachineModel", "tokens", "I", false)
  | 10 => ("PascalMachineModel", "pKind", "[I", true)
  | 11 => ("PascalMachineModel", "pWord", "[I", true)
  | 12 => ("PascalMachineModel", "pMeans", "[I", true)
  | 13 => ("PascalMachineModel", "pNext", "[I", true)
  | 14 => ("PascalMachineModel", "program", "Z", false)
  | 15 => ("PascalMachineModel", "fault", "I", false)
  | 16 => ("PascalMachineModel", "name", "[J", true)
  | 17 => ("PascalMachineModel", "sort", "[I", true)
  | 18 => ("PascalMachineModel", "home", "[I", true)
  | 19 => ("PascalMachineModel", "own", "[I", true)
  | 20 => ("PascalMachineModel", "wants", "[I", true)
  | 21 => ("PascalMachineModel", "symbols", "I", false)
  | 22 => ("PascalMachineModel", "variables", "I", false)
  | 23 => ("PascalMachineModel", "procedures", "I", false)
  | 24 => ("PascalMachineModel", "around", "[I", true)
  | 25 => ("PascalMachineModel", "body", "[I", true)
  | 26 => ("PascalMachineModel", "blocks", "I", false)
  | 27 => ("PascalMachineModel", "block", "I", false)
  | 28 => ("PascalMachineModel", "pSort", "[I", true)
  | 29 => ("PascalMachineModel", "pHome", "[I", true)
  | 30 => ("PascalMachineModel", "pOwn", "[I", true)
  | 31 => ("PascalMachineModel", "pWants", "[I", true)
  | 32 => ("PascalMachineModel", "pBody", "[I", true)
  | 33 => ("PascalMachineModel", "at", "I", false)
  | 34 => ("PascalMachineModel", "wrong", "I", false)
  | 35 => ("PascalMachineModel", "within", "[I", true)
  | 36 => ("PascalMachineModel", "since", "[I", true)
  | 37 => ("PascalMachineModel", "deep", "I", false)
  | 38 => ("PascalMachineModel", "cell", "[I", true)
  | 39 => ("PascalMachineModel", "stands", "[I", true)
  | 40 => ("PascalMachineModel", "blockOf", "[I", true)
  | 41 => ("PascalMachineModel", "outer", "[I", true)
  | 42 => ("PascalMachineModel", "back", "[I", true)
  | 43 => ("PascalMachineModel", "level", "[I", true)
  | 44 => ("PascalMachineModel", "doing", "[I", true)
  | 45 => ("PascalMachineModel", "doneAt", "[I", true)
  | 46 => ("PascalMachineModel", "frame", "I", false)
  | 47 => ("PascalMachineModel", "pc", "I", false)
  | 48 => ("PascalMachineModel", "failure", "I", false)
  | 49 => ("PascalMachineModel", "steps", "I", false)
  | 50 => ("PascalMachineModel", "greatest", "I", false)
  | 51 => ("PascalMachineModel", "lost", "I", false)
  | 52 => ("PascalMachineModel", "output", "[I", true)
  | 53 => ("PascalMachineModel", "written", "I", false)
  | 54 => ("PascalMachineModel", "sum", "[I", true)
  | 55 => ("PascalMachineModel", "term", "[I", true)
  | 56 => ("PascalMachineModel", "sumSign", "[I", true)
  | 57 => ("PascalMachineModel", "termSign", "[I", true)
  | _ => ("PascalMachineModel", "given", "[I", true)
def t_Mo : Nat → FieldType := fun k => match k with
  | 0 => .int
  | 1 => .array .int
  | 2 => .int
  | 3 => .array .int
  | 4 => .array .long
  | 5 => .array .int
  | 6 => .array .int
  | 7 => .array .int
  | 8 => .array .int
  | 9 => .int
  | 10 => .array .int
  | 11 => .array .int
  | 12 => .array .int
  | 13 => .array .int
  | 14 => .boolean
  | 15 => .int
  | 16 => .array .long
  | 17 => .array .int
  | 18 => .array .int
  | 19 => .array .int
  | 20 => .array .int
  | 21 => .int
  | 22 => .int
  | 23 => .int
  | 24 => .array .int
  | 25 => .array .int
  | 26 => .int
  | 27 => .int
  | 28 => .array .int
  | 29 => .array .int
  | 30 => .array .int
  | 31 => .array .int
  | 32 => .array .int
  | 33 => .int
  | 34 => .int
  | 35 => .array .int
  | 36 => .array .int
  | 37 => .int
  | 38 => .array .int
  | 39 => .array .int
  | 40 => .array .int
  | 41 => .array .int
  | 42 => .array .int
  | 43 => .array .int
  | 44 => .array .int
  | 45 => .array .int
  | 46 => .int
  | 47 => .int
  | 48 => .int
  | 49 => .int
  | 50 => .int
  | 51 => .int
  | 52 => .array .int
  | 53 => .int
  | 54 => .array .int
  | 55 => .array .int
  | 56 => .array .int
  | 57 => .array .int
  | _ => .array .int
theorem n_Mo : ∀ a, a < 59 → ∀ b, b < 59 → a ≠ b → (F_Mo a).2.1 ≠ (F_Mo b).2.1 := by decide +kernel
theorem t_Mo_ok : ∀ k, k < 59 → parseFieldDescriptor (F_Mo k).2.2.1 = some (t_Mo k) := by decide +kernel
theorem in_Mo : ∀ w ∈ u_ws R_Mo F_Mo 59, w ∈ gt := gta (by decide +kernel)
abbrev classes : List vw_C := [(R_Co, F_Co, 8), (R_Cp, F_Cp, 4), (R_Mc, F_Mc, 13), (R_Nm, F_Nm, 9), (R_Tk, F_Tk, 7), (R_PM, F_PM, 5), (R_Mo, F_Mo, 59)]
