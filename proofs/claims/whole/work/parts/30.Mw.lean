/-! ===== the Model's cells ===== -/
/-- thrown, text, length, fault, program -/
abbrev MS0 : Type := (Nat) × (Nat → Nat) × (Nat) × (Int32) × (Bool)
/-- kind, word, from, to, means, next, tokens -/
abbrev MS1 : Type := (Nat → Nat) × (Nat → Int64) × (Nat → Nat) × (Nat → Nat) × (Nat → Nat) × (Nat → Nat) × (Nat)
/-- name, sort, home, own, wants, symbols, variables, procedures, around, body, blocks, block -/
abbrev MS2 : Type := (Nat → Int64) × (Nat → Nat) × (Nat → Nat) × (Nat → Nat) × (Nat → Nat) × (Nat) × (Nat) × (Nat) × (Nat → Option Nat) × (Nat → Nat) × (Nat) × (Nat)
/-- pKind, pWord, pMeans, pNext, pSort, pHome, pOwn, pWants, pBody -/
abbrev MS3 : Type := (Nat → Nat) × (Nat → Int32) × (Nat → Nat) × (Nat → Nat) × (Nat → Nat) × (Nat → Nat) × (Nat → Nat) × (Nat → Nat) × (Nat → Nat)
/-- at, wrong, within, since, deep -/
abbrev MS4 : Type := (Nat) × (Option Nat) × (Nat → Nat) × (Nat → Nat) × (Nat)
/-- cell, stands, blockOf, outer, back, level, doing, doneAt, frame, pc, failure, steps, greatest, lost, output, written -/
abbrev MS5 : Type := (Nat → Int32) × (Nat → Nat) × (Nat → Nat) × (Nat → Option Nat) × (Nat → Nat) × (Nat → Nat) × (Nat → Nat) × (Nat → Nat) × (Option Nat) × (Nat) × (Nat) × (Nat) × (Nat) × (Nat) × (Nat → Int32) × (Nat)
/-- sum, term, sumSign, termSign, given -/
abbrev MS6 : Type := (Nat → Int32) × (Nat → Int32) × (Nat → Nat) × (Nat → Nat) × (Nat → Int32)
abbrev MS : Type := MS0 × MS1 × MS2 × MS3 × MS4 × MS5 × MS6
def r_thrown (S : MS) : Nat := S.1.1
def r_text (S : MS) : Nat → Nat := S.1.2.1
def r_length (S : MS) : Nat := S.1.2.2.1
def r_kind (S : MS) : Nat → Nat := S.2.1.1
def r_word (S : MS) : Nat → Int64 := S.2.1.2.1
def r_from (S : MS) : Nat → Nat := S.2.1.2.2.1
def r_to (S : MS) : Nat → Nat := S.2.1.2.2.2.1
def r_means (S : MS) : Nat → Nat := S.2.1.2.2.2.2.1
def r_next (S : MS) : Nat → Nat := S.2.1.2.2.2.2.2.1
def r_tokens (S : MS) : Nat := S.2.1.2.2.2.2.2.2
def r_pKind (S : MS) : Nat → Nat := S.2.2.2.1.1
def r_pWord (S : MS) : Nat → Int32 := S.2.2.2.1.2.1
def r_pMeans (S : MS) : Nat → Nat := S.2.2.2.1.2.2.1
def r_pNext (S : MS) : Nat → Nat := S.2.2.2.1.2.2.2.1
def r_program (S : MS) : Bool := S.1.2.2.2.2
def r_fault (S : MS) : Int32 := S.1.2.2.2.1
def r_name (S : MS) : Nat → Int64 := S.2.2.1.1
def r_sort (S : MS) : Nat → Nat := S.2.2.1.2.1
def r_home (S : MS) : Nat → Nat := S.2.2.1.2.2.1
def r_own (S : MS) : Nat → Nat := S.2.2.1.2.2.2.1
def r_wants (S : MS) : Nat → Nat := S.2.2.1.2.2.2.2.1
def r_symbols (S : MS) : Nat := S.2.2.1.2.2.2.2.2.1
def r_variables (S : MS) : Nat := S.2.2.1.2.2.2.2.2.2.1
def r_procedures (S : MS) : Nat := S.2.2.1.2.2.2.2.2.2.2.1
def r_around (S : MS) : Nat → Option Nat := S.2.2.1.2.2.2.2.2.2.2.2.1
def r_body (S : MS) : Nat → Nat := S.2.2.1.2.2.2.2.2.2.2.2.2.1
def r_blocks (S : MS) : Nat := S.2.2.1.2.2.2.2.2.2.2.2.2.2.1
def r_block (S : MS) : Nat := S.2.2.1.2.2.2.2.2.2.2.2.2.2.2
def r_pSort (S : MS) : Nat → Nat := S.2.2.2.1.2.2.2.2.1
def r_pHome (S : MS) : Nat → Nat := S.2.2.2.1.2.2.2.2.2.1
def r_pOwn (S : MS) : Nat → Nat := S.2.2.2.1.2.2.2.2.2.2.1
def r_pWants (S : MS) : Nat → Nat := S.2.2.2.1.2.2.2.2.2.2.2.1
def r_pBody (S : MS) : Nat → Nat := S.2.2.2.1.2.2.2.2.2.2.2.2
def r_at (S : MS) : Nat := S.2.2.2.2.1.1
def r_wrong (S : MS) : Option Nat := S.2.2.2.2.1.2.1
def r_within (S : MS) : Nat → Nat := S.2.2.2.2.1.2.2.1
def r_since (S : MS) : Nat → Nat := S.2.2.2.2.1.2.2.2.1
def r_deep (S : MS) : Nat := S.2.2.2.2.1.2.2.2.2
def r_cell (S : MS) : Nat → Int32 := S.2.2.2.2.2.1.1
def r_stands (S : MS) : Nat → Nat := S.2.2.2.2.2.1.2.1
def r_blockOf (S : MS) : Nat → Nat := S.2.2.2.2.2.1.2.2.1
def r_outer (S : MS) : Nat → Option Nat := S.2.2.2.2.2.1.2.2.2.1
def r_back (S : MS) : Nat → Nat := S.2.2.2.2.2.1.2.2.2.2.1
def r_level (S : MS) : Nat → Nat := S.2.2.2.2.2.1.2.2.2.2.2.1
def r_doing (S : MS) : Nat → Nat := S.2.2.2.2.2.1.2.2.2.2.2.2.1
def r_doneAt (S : MS) : Nat → Nat := S.2.2.2.2.2.1.2.2.2.2.2.2.2.1
def r_frame (S : MS) : Option Nat := S.2.2.2.2.2.1.2.2.2.2.2.2.2.2.1
def r_pc (S : MS) : Nat := S.2.2.2.2.2.1.2.2.2.2.2.2.2.2.2.1
def r_failure (S : MS) : Nat := S.2.2.2.2.2.1.2.2.2.2.2.2.2.2.2.2.1
def r_steps (S : MS) : Nat := S.2.2.2.2.2.1.2.2.2.2.2.2.2.2.2.2.2.1
def r_greatest (S : MS) : Nat := S.2.2.2.2.2.1.2.2.2.2.2.2.2.2.2.2.2.2.1
def r_lost (S : MS) : Nat := S.2.2.2.2.2.1.2.2.2.2.2.2.2.2.2.2.2.2.2.1
def r_output (S : MS) : Nat → Int32 := S.2.2.2.2.2.1.2.2.2.2.2.2.2.2.2.2.2.2.2.2.1
def r_written (S : MS) : Nat := S.2.2.2.2.2.1.2.2.2.2.2.2.2.2.2.2.2.2.2.2.2
def r_sum (S : MS) : Nat → Int32 := S.2.2.2.2.2.2.1
def r_term (S : MS) : Nat → Int32 := S.2.2.2.2.2.2.2.1
def r_sumSign (S : MS) : Nat → Nat := S.2.2.2.2.2.2.2.2.1
def r_termSign (S : MS) : Nat → Nat := S.2.2.2.2.2.2.2.2.2.1
def r_given (S : MS) : Nat → Int32 := S.2.2.2.2.2.2.2.2.2.2
def w_thrown (S : MS) (x : Nat) : MS := ((x, S.1.2.1, S.1.2.2.1, S.1.2.2.2.1, S.1.2.2.2.2), S.2.1, S.2.2.1, S.2.2.2.1, S.2.2.2.2.1, S.2.2.2.2.2.1, S.2.2.2.2.2.2)
def w_text (S : MS) (x : Nat → Nat) : MS := ((S.1.1, x, S.1.2.2.1, S.1.2.2.2.1, S.1.2.2.2.2), S.2.1, S.2.2.1, S.2.2.2.1, S.2.2.2.2.1, S.2.2.2.2.2.1, S.2.2.2.2.2.2)
def w_length (S : MS) (x : Nat) : MS := ((S.1.1, S.1.2.1, x, S.1.2.2.2.1, S.1.2.2.2.2), S.2.1, S.2.2.1, S.2.2.2.1, S.2.2.2.2.1, S.2.2.2.2.2.1, S.2.2.2.2.2.2)
def w_fault (S : MS) (x : Int32) : MS := ((S.1.1, S.1.2.1, S.1.2.2.1, x, S.1.2.2.2.2), S.2.1, S.2.2.1, S.2.2.2.1, S.2.2.2.2.1, S.2.2.2.2.2.1, S.2.2.2.2.2.2)
def w_program (S : MS) (x : Bool) : MS := ((S.1.1, S.1.2.1, S.1.2.2.1, S.1.2.2.2.1, x), S.2.1, S.2.2.1, S.2.2.2.1, S.2.2.2.2.1, S.2.2.2.2.2.1, S.2.2.2.2.2.2)
def w_kind (S : MS) (x : Nat → Nat) : MS := (S.1, (x, S.2.1.2.1, S.2.1.2.2.1, S.2.1.2.2.2.1, S.2.1.2.2.2.2.1, S.2.1.2.2.2.2.2.1, S.2.1.2.2.2.2.2.2), S.2.2.1, S.2.2.2.1, S.2.2.2.2.1, S.2.2.2.2.2.1, S.2.2.2.2.2.2)
def w_word (S : MS) (x : Nat → Int64) : MS := (S.1, (S.2.1.1, x, S.2.1.2.2.1, S.2.1.2.2.2.1, S.2.1.2.2.2.2.1, S.2.1.2.2.2.2.2.1, S.2.1.2.2.2.2.2.2), S.2.2.1, S.2.2.2.1, S.2.2.2.2.1, S.2.2.2.2.2.1, S.2.2.2.2.2.2)
def w_from (S : MS) (x : Nat → Nat) : MS := (S.1, (S.2.1.1, S.2.1.2.1, x, S.2.1.2.2.2.1, S.2.1.2.2.2.2.1, S.2.1.2.2.2.2.2.1, S.2.1.2.2.2.2.2.2), S.2.2.1, S.2.2.2.1, S.2.2.2.2.1, S.2.2.2.2.2.1, S.2.2.2.2.2.2)
def w_to (S : MS) (x : Nat → Nat) : MS := (S.1, (S.2.1.1, S.2.1.2.1, S.2.1.2.2.1, x, S.2.1.2.2.2.2.1, S.2.1.2.2.2.2.2.1, S.2.1.2.2.2.2.2.2), S.2.2.1, S.2.2.2.1, S.2.2.2.2.1, S.2.2.2.2.2.1, S.2.2.2.2.2.2)
def w_means (S : MS) (x : Nat → Nat) : MS := (S.1, (S.2.1.1, S.2.1.2.1, S.2.1.2.2.1, S.2.1.2.2.2.1, x, S.2.1.2.2.2.2.2.1, S.2.1.2.2.2.2.2.2), S.2.2.1, S.2.2.2.1, S.2.2.2.2.1, S.2.2.2.2.2.1, S.2.2.2.2.2.2)
def w_next (S : MS) (x : Nat → Nat) : MS := (S.1, (S.2.1.1, S.2.1.2.1, S.2.1.2.2.1, S.2.1.2.2.2.1, S.2.1.2.2.2.2.1, x, S.2.1.2.2.2.2.2.2), S.2.2.1, S.2.2.2.1, S.2.2.2.2.1, S.2.2.2.2.2.1, S.2.2.2.2.2.2)
def w_tokens (S : MS) (x : Nat) : MS := (S.1, (S.2.1.1, S.2.1.2.1, S.2.1.2.2.1, S.2.1.2.2.2.1, S.2.1.2.2.2.2.1, S.2.1.2.2.2.2.2.1, x), S.2.2.1, S.2.2.2.1, S.2.2.2.2.1, S.2.2.2.2.2.1, S.2.2.2.2.2.2)
def w_name (S : MS) (x : Nat → Int64) : MS := (S.1, S.2.1, (x, S.2.2.1.2.1, S.2.2.1.2.2.1, S.2.2.1.2.2.2.1, S.2.2.1.2.2.2.2.1, S.2.2.1.2.2.2.2.2.1, S.2.2.1.2.2.2.2.2.2.1, S.2.2.1.2.2.2.2.2.2.2.1, S.2.2.1.2.2.2.2.2.2.2.2.1, S.2.2.1.2.2.2.2.2.2.2.2.2.1, S.2.2.1.2.2.2.2.2.2.2.2.2.2.1, S.2.2.1.2.2.2.2.2.2.2.2.2.2.2), S.2.2.2.1, S.2.2.2.2.1, S.2.2.2.2.2.1, S.2.2.2.2.2.2)
def w_sort (S : MS) (x : Nat → Nat) : MS := (S.1, S.2.1, (S.2.2.1.1, x, S.2.2.1.2.2.1, S.2.2.1.2.2.2.1, S.2.2.1.2.2.2.2.1, S.2.2.1.2.2.2.2.2.1, S.2.2.1.2.2.2.2.2.2.1, S.2.2.1.2.2.2.2.2.2.2.1, S.2.2.1.2.2.2.2.2.2.2.2.1, S.2.2.1.2.2.2.2.2.2.2.2.2.1, S.2.2.1.2.2.2.2.2.2.2.2.2.2.1, S.2.2.1.2.2.2.2.2.2.2.2.2.2.2), S.2.2.2.1, S.2.2.2.2.1, S.2.2.2.2.2.1, S.2.2.2.2.2.2)
def w_home (S : MS) (x : Nat → Nat) : MS := (S.1, S.2.1, (S.2.2.1.1, S.2.2.1.2.1, x, S.2.2.1.2.2.2.1, S.2.2.1.2.2.2.2.1, S.2.2.1.2.2.2.2.2.1, S.2.2.1.2.2.2.2.2.2.1, S.2.2.1.2.2.2.2.2.2.2.1, S.2.2.1.2.2.2.2.2.2.2.2.1, S.2.2.1.2.2.2.2.2.2.2.2.2.1, S.2.2.1.2.2.2.2.2.2.2.2.2.2.1, S.2.2.1.2.2.2.2.2.2.2.2.2.2.2), S.2.2.2.1, S.2.2.2.2.1, S.2.2.2.2.2.1, S.2.2.2.2.2.2)
def w_own (S : MS) (x : Nat → Nat) : MS := (S.1, S.2.1, (S.2.2.1.1, S.2.2.1.2.1, S.2.2.1.2.2.1, x, S.2.2.1.2.2.2.2.1, S.2.2.1.2.2.2.2.2.1, S.2.2.1.2.2.2.2.2.2.1, S.2.2.1.2.2.2.2.2.2.2.1, S.2.2.1.2.2.2.2.2.2.2.2.1, S.2.2.1.2.2.2.2.2.2.2.2.2.1, S.2.2.1.2.2.2.2.2.2.2.2.2.2.1, S.2.2.1.2.2.2.2.2.2.2.2.2.2.2), S.2.2.2.1, S.2.2.2.2.1, S.2.2.2.2.2.1, S.2.2.2.2.2.2)
def w_wants (S : MS) (x : Nat → Nat) : MS := (S.1, S.2.1, (S.2.2.1.1, S.2.2.1.2.1, S.2.2.1.2.2.1, S.2.2.1.2.2.2.1, x, S.2.2.1.2.2.2.2.2.1, S.2.2.1.2.2.2.2.2.2.1, S.2.2.1.2.2.2.2.2.2.2.1, S.2.2.1.2.2.2.2.2.2.2.2.1, S.2.2.1.2.2.2.2.2.2.2.2.2.1, S.2.2.1.2.2.2.2.2.2.2.2.2.2.1, S.2.2.1.2.2.2.2.2.2.2.2.2.2.2), S.2.2.2.1, S.2.2.2.2.1, S.2.2.2.2.2.1, S.2.2.2.2.2.2)
def w_symbols (S : MS) (x : Nat) : MS := (S.1, S.2.1, (S.2.2.1.1, S.2.2.1.2.1, S.2.2.1.2.2.1, S.2.2.1.2.2.2.1, S.2.2.1.2.2.2.2.1, x, S.2.2.1.2.2.2.2.2.2.1, S.2.2.1.2.2.2.2.2.2.2.1, S.2.2.1.2.2.2.2.2.2.2.2.1, S.2.2.1.2.2.2.2.2.2.2.2.2.1, S.2.2.1.2.2.2.2.2.2.2.2.2.2.1, S.2.2.1.2.2.2.2.2.2.2.2.2.2.2), S.2.2.2.1, S.2.2.2.2.1, S.2.2.2.2.2.1, S.2.2.2.2.2.2)
def w_variables (S : MS) (x : Nat) : MS := (S.1, S.2.1, (S.2.2.1.1, S.2.2.1.2.1, S.2.2.1.2.2.1, S.2.2.1.2.2.2.1, S.2.2.1.2.2.2.2.1, S.2.2.1.2.2.2.2.2.1, x, S.2.2.1.2.2.2.2.2.2.2.1, S.2.2.1.2.2.2.2.2.2.2.2.1, S.2.2.1.2.2.2.2.2.2.2.2.2.1, S.2.2.1.2.2.2.2.2.2.2.2.2.2.1, S.2.2.1.2.2.2.2.2.2.2.2.2.2.2), S.2.2.2.1, S.2.2.2.2.1, S.2.2.2.2.2.1, S.2.2.2.2.2.2)
def w_procedures (S : MS) (x : Nat) : MS := (S.1, S.2.1, (S.2.2.1.1, S.2.2.1.2.1, S.2.2.1.2.2.1, S.2.2.1.2.2.2.1, S.2.2.1.2.2.2.2.1, S.2.2.1.2.2.2.2.2.1, S.2.2.1.2.2.2.2.2.2.1, x, S.2.2.1.2.2.2.2.2.2.2.2.1, S.2.2.1.2.2.2.2.2.2.2.2.2.1, S.2.2.1.2.2.2.2.2.2.2.2.2.2.1, S.2.2.1.2.2.2.2.2.2.2.2.2.2.2), S.2.2.2.1, S.2.2.2.2.1, S.2.2.2.2.2.1, S.2.2.2.2.2.2)
def w_around (S : MS) (x : Nat → Option Nat) : MS := (S.1, S.2.1, (S.2.2.1.1, S.2.2.1.2.1, S.2.2.1.2.2.1, S.2.2.1.2.2.2.1, S.2.2.1.2.2.2.2.1, S.2.2.1.2.2.2.2.2.1, S.2.2.1.2.2.2.2.2.2.1, S.2.2.1.2.2.2.2.2.2.2.1, x, S.2.2.1.2.2.2.2.2.2.2.2.2.1, S.2.2.1.2.2.2.2.2.2.2.2.2.2.1, S.2.2.1.2.2.2.2.2.2.2.2.2.2.2), S.2.2.2.1, S.2.2.2.2.1, S.2.2.2.2.2.1, S.2.2.2.2.2.2)
def w_body (S : MS) (x : Nat → Nat) : MS := (S.1, S.2.1, (S.2.2.1.1, S.2.2.1.2.1, S.2.2.1.2.2.1, S.2.2.1.2.2.2.1, S.2.2.1.2.2.2.2.1, S.2.2.1.2.2.2.2.2.1, S.2.2.1.2.2.2.2.2.2.1, S.2.2.1.2.2.2.2.2.2.2.1, S.2.2.1.2.2.2.2.2.2.2.2.1, x, S.2.2.1.2.2.2.2.2.2.2.2.2.2.1, S.2.2.1.2.2.2.2.2.2.2.2.2.2.2), S.2.2.2.1, S.2.2.2.2.1, S.2.2.2.2.2.1, S.2.2.2.2.2.2)
def w_blocks (S : MS) (x : Nat) : MS := (S.1, S.2.1, (S.2.2.1.1, S.2.2.1.2.1, S.2.2.1.2.2.1, S.2.2.1.2.2.2.1, S.2.2.1.2.2.2.2.1, S.2.2.1.2.2.2.2.2.1, S.2.2.1.2.2.2.2.2.2.1, S.2.2.1.2.2.2.2.2.2.2.1, S.2.2.1.2.2.2.2.2.2.2.2.1, S.2.2.1.2.2.2.2.2.2.2.2.2.1, x, S.2.2.1.2.2.2.2.2.2.2.2.2.2.2), S.2.2.2.1, S.2.2.2.2.1, S.2.2.2.2.2.1, S.2.2.2.2.2.2)
def w_block (S : MS) (x : Nat) : MS := (S.1, S.2.1, (S.2.2.1.1, S.2.2.1.2.1, S.2.2.1.2.2.1, S.2.2.1.2.2.2.1, S.2.2.1.2.2.2.2.1, S.2.2.1.2.2.2.2.2.1, S.2.2.1.2.2.2.2.2.2.1, S.2.2.1.2.2.2.2.2.2.2.1, S.2.2.1.2.2.2.2.2.2.2.2.1, S.2.2.1.2.2.2.2.2.2.2.2.2.1, S.2.2.1.2.2.2.2.2.2.2.2.2.2.1, x), S.2.2.2.1, S.2.2.2.2.1, S.2.2.2.2.2.1, S.2.2.2.2.2.2)
def w_pKind (S : MS) (x : Nat → Nat) : MS := (S.1, S.2.1, S.2.2.1, (x, S.2.2.2.1.2.1, S.2.2.2.1.2.2.1, S.2.2.2.1.2.2.2.1, S.2.2.2.1.2.2.2.2.1, S.2.2.2.1.2.2.2.2.2.1, S.2.2.2.1.2.2.2.2.2.2.1, S.2.2.2.1.2.2.2.2.2.2.2.1, S.2.2.2.1.2.2.2.2.2.2.2.2), S.2.2.2.2.1, S.2.2.2.2.2.1, S.2.2.2.2.2.2)
def w_pWord (S : MS) (x : Nat → Int32) : MS := (S.1, S.2.1, S.2.2.1, (S.2.2.2.1.1, x, S.2.2.2.1.2.2.1, S.2.2.2.1.2.2.2.1, S.2.2.2.1.2.2.2.2.1, S.2.2.2.1.2.2.2.2.2.1, S.2.2.2.1.2.2.2.2.2.2.1, S.2.2.2.1.2.2.2.2.2.2.2.1, S.2.2.2.1.2.2.2.2.2.2.2.2), S.2.2.2.2.1, S.2.2.2.2.2.1, S.2.2.2.2.2.2)
def w_pMeans (S : MS) (x : Nat → Nat) : MS := (S.1, S.2.1, S.2.2.1, (S.2.2.2.1.1, S.2.2.2.1.2.1, x, S.2.2.2.1.2.2.2.1, S.2.2.2.1.2.2.2.2.1, S.2.2.2.1.2.2.2.2.2.1, S.2.2.2.1.2.2.2.2.2.2.1, S.2.2.2.1.2.2.2.2.2.2.2.1, S.2.2.2.1.2.2.2.2.2.2.2.2), S.2.2.2.2.1, S.2.2.2.2.2.1, S.2.2.2.2.2.2)
def w_pNext (S : MS) (x : Nat → Nat) : MS := (S.1, S.2.1, S.2.2.1, (S.2.2.2.1.1, S.2.2.2.1.2.1, S.2.2.2.1.2.2.1, x, S.2.2.2.1.2.2.2.2.1, S.2.2.2.1.2.2.2.2.2.1, S.2.2.2.1.2.2.2.2.2.2.1, S.2.2.2.1.2.2.2.2.2.2.2.1, S.2.2.2.1.2.2.2.2.2.2.2.2), S.2.2.2.2.1, S.2.2.2.2.2.1, S.2.2.2.2.2.2)
def w_pSort (S : MS) (x : Nat → Nat) : MS := (S.1, S.2.1, S.2.2.1, (S.2.2.2.1.1, S.2.2.2.1.2.1, S.2.2.2.1.2.2.1, S.2.2.2.1.2.2.2.1, x, S.2.2.2.1.2.2.2.2.2.1, S.2.2.2.1.2.2.2.2.2.2.1, S.2.2.2.1.2.2.2.2.2.2.2.1, S.2.2.2.1.2.2.2.2.2.2.2.2), S.2.2.2.2.1, S.2.2.2.2.2.1, S.2.2.2.2.2.2)
def w_pHome (S : MS) (x : Nat → Nat) : MS := (S.1, S.2.1, S.2.2.1, (S.2.2.2.1.1, S.2.2.2.1.2.1, S.2.2.2.1.2.2.1, S.2.2.2.1.2.2.2.1, S.2.2.2.1.2.2.2.2.1, x, S.2.2.2.1.2.2.2.2.2.2.1, S.2.2.2.1.2.2.2.2.2.2.2.1, S.2.2.2.1.2.2.2.2.2.2.2.2), S.2.2.2.2.1, S.2.2.2.2.2.1, S.2.2.2.2.2.2)
def w_pOwn (S : MS) (x : Nat → Nat) : MS := (S.1, S.2.1, S.2.2.1, (S.2.2.2.1.1, S.2.2.2.1.2.1, S.2.2.2.1.2.2.1, S.2.2.2.1.2.2.2.1, S.2.2.2.1.2.2.2.2.1, S.2.2.2.1.2.2.2.2.2.1, x, S.2.2.2.1.2.2.2.2.2.2.2.1, S.2.2.2.1.2.2.2.2.2.2.2.2), S.2.2.2.2.1, S.2.2.2.2.2.1, S.2.2.2.2.2.2)
def w_pWants (S : MS) (x : Nat → Nat) : MS := (S.1, S.2.1, S.2.2.1, (S.2.2.2.1.1, S.2.2.2.1.2.1, S.2.2.2.1.2.2.1, S.2.2.2.1.2.2.2.1, S.2.2.2.1.2.2.2.2.1, S.2.2.2.1.2.2.2.2.2.1, S.2.2.2.1.2.2.2.2.2.2.1, x, S.2.2.2.1.2.2.2.2.2.2.2.2), S.2.2.2.2.1, S.2.2.2.2.2.1, S.2.2.2.2.2.2)
def w_pBody (S : MS) (x : Nat → Nat) : MS := (S.1, S.2.1, S.2.2.1, (S.2.2.2.1.1, S.2.2.2.1.2.1, S.2.2.2.1.2.2.1, S.2.2.2.1.2.2.2.1, S.2.2.2.1.2.2.2.2.1, S.2.2.2.1.2.2.2.2.2.1, S.2.2.2.1.2.2.2.2.2.2.1, S.2.2.2.1.2.2.2.2.2.2.2.1, x), S.2.2.2.2.1, S.2.2.2.2.2.1, S.2.2.2.2.2.2)
def w_at (S : MS) (x : Nat) : MS := (S.1, S.2.1, S.2.2.1, S.2.2.2.1, (x, S.2.2.2.2.1.2.1, S.2.2.2.2.1.2.2.1, S.2.2.2.2.1.2.2.2.1, S.2.2.2.2.1.2.2.2.2), S.2.2.2.2.2.1, S.2.2.2.2.2.2)
def w_wrong (S : MS) (x : Option Nat) : MS := (S.1, S.2.1, S.2.2.1, S.2.2.2.1, (S.2.2.2.2.1.1, x, S.2.2.2.2.1.2.2.1, S.2.2.2.2.1.2.2.2.1, S.2.2.2.2.1.2.2.2.2), S.2.2.2.2.2.1, S.2.2.2.2.2.2)
def w_within (S : MS) (x : Nat → Nat) : MS := (S.1, S.2.1, S.2.2.1, S.2.2.2.1, (S.2.2.2.2.1.1, S.2.2.2.2.1.2.1, x, S.2.2.2.2.1.2.2.2.1, S.2.2.2.2.1.2.2.2.2), S.2.2.2.2.2.1, S.2.2.2.2.2.2)
def w_since (S : MS) (x : Nat → Nat) : MS := (S.1, S.2.1, S.2.2.1, S.2.2.2.1, (S.2.2.2.2.1.1, S.2.2.2.2.1.2.1, S.2.2.2.2.1.2.2.1, x, S.2.2.2.2.1.2.2.2.2), S.2.2.2.2.2.1, S.2.2.2.2.2.2)
def w_deep (S : MS) (x : Nat) : MS := (S.1, S.2.1, S.2.2.1, S.2.2.2.1, (S.2.2.2.2.1.1, S.2.2.2.2.1.2.1, S.2.2.2.2.1.2.2.1, S.2.2.2.2.1.2.2.2.1, x), S.2.2.2.2.2.1, S.2.2.2.2.2.2)
def w_cell (S : MS) (x : Nat → Int32) : MS := (S.1, S.2.1, S.2.2.1, S.2.2.2.1, S.2.2.2.2.1, (x, S.2.2.2.2.2.1.2.1, S.2.2.2.2.2.1.2.2.1, S.2.2.2.2.2.1.2.2.2.1, S.2.2.2.2.2.1.2.2.2.2.1, S.2.2.2.2.2.1.2.2.2.2.2.1, S.2.2.2.2.2.1.2.2.2.2.2.2.1, S.2.2.2.2.2.1.2.2.2.2.2.2.2.1, S.2.2.2.2.2.1.2.2.2.2.2.2.2.2.1, S.2.2.2.2.2.1.2.2.2.2.2.2.2.2.2.1, S.2.2.2.2.2.1.2.2.2.2.2.2.2.2.2.2.1, S.2.2.2.2.2.1.2.2.2.2.2.2.2.2.2.2.2.1, S.2.2.2.2.2.1.2.2.2.2.2.2.2.2.2.2.2.2.1, S.2.2.2.2.2.1.2.2.2.2.2.2.2.2.2.2.2.2.2.1, S.2.2.2.2.2.1.2.2.2.2.2.2.2.2.2.2.2.2.2.2.1, S.2.2.2.2.2.1.2.2.2.2.2.2.2.2.2.2.2.2.2.2.2), S.2.2.2.2.2.2)
def w_stands (S : MS) (x : Nat → Nat) : MS := (S.1, S.2.1, S.2.2.1, S.2.2.2.1, S.2.2.2.2.1, (S.2.2.2.2.2.1.1, x, S.2.2.2.2.2.1.2.2.1, S.2.2.2.2.2.1.2.2.2.1, S.2.2.2.2.2.1.2.2.2.2.1, S.2.2.2.2.2.1.2.2.2.2.2.1, S.2.2.2.2.2.1.2.2.2.2.2.2.1, S.2.2.2.2.2.1.2.2.2.2.2.2.2.1, S.2.2.2.2.2.1.2.2.2.2.2.2.2.2.1, S.2.2.2.2.2.1.2.2.2.2.2.2.2.2.2.1, S.2.2.2.2.2.1.2.2.2.2.2.2.2.2.2.2.1, S.2.2.2.2.2.1.2.2.2.2.2.2.2.2.2.2.2.1, S.2.2.2.2.2.1.2.2.2.2.2.2.2.2.2.2.2.2.1, S.2.2.2.2.2.1.2.2.2.2.2.2.2.2.2.2.2.2.2.1, S.2.2.2.2.2.1.2.2.2.2.2.2.2.2.2.2.2.2.2.2.1, S.2.2.2.2.2.1.2.2.2.2.2.2.2.2.2.2.2.2.2.2.2), S.2.2.2.2.2.2)
def w_blockOf (S : MS) (x : Nat → Nat) : MS := (S.1, S.2.1, S.2.2.1, S.2.2.2.1, S.2.2.2.2.1, (S.2.2.2.2.2.1.1, S.2.2.2.2.2.1.2.1, x, S.2.2.2.2.2.1.2.2.2.1, S.2.2.2.2.2.1.2.2.2.2.1, S.2.2.2.2.2.1.2.2.2.2.2.1, S.2.2.2.2.2.1.2.2.2.2.2.2.1, S.2.2.2.2.2.1.2.2.2.2.2.2.2.1, S.2.2.2.2.2.1.2.2.2.2.2.2.2.2.1, S.2.2.2.2.2.1.2.2.2.2.2.2.2.2.2.1, S.2.2.2.2.2.1.2.2.2.2.2.2.2.2.2.2.1, S.2.2.2.2.2.1.2.2.2.2.2.2.2.2.2.2.2.1, S.2.2.2.2.2.1.2.2.2.2.2.2.2.2.2.2.2.2.1, S.2.2.2.2.2.1.2.2.2.2.2.2.2.2.2.2.2.2.2.1, S.2.2.2.2.2.1.2.2.2.2.2.2.2.2.2.2.2.2.2.2.1, S.2.2.2.2.2.1.2.2.2.2.2.2.2.2.2.2.2.2.2.2.2), S.2.2.2.2.2.2)
def w_outer (S : MS) (x : Nat → Option Nat) : MS := (S.1, S.2.1, S.2.2.1, S.2.2.2.1, S.2.2.2.2.1, (S.2.2.2.2.2.1.1, S.2.2.2.2.2.1.2.1, S.2.2.2.2.2.1.2.2.1, x, S.2.2.2.2.2.1.2.2.2.2.1, S.2.2.2.2.2.1.2.2.2.2.2.1, S.2.2.2.2.2.1.2.2.2.2.2.2.1, S.2.2.2.2.2.1.2.2.2.2.2.2.2.1, S.2.2.2.2.2.1.2.2.2.2.2.2.2.2.1, S.2.2.2.2.2.1.2.2.2.2.2.2.2.2.2.1, S.2.2.2.2.2.1.2.2.2.2.2.2.2.2.2.2.1, S.2.2.2.2.2.1.2.2.2.2.2.2.2.2.2.2.2.1, S.2.2.2.2.2.1.2.2.2.2.2.2.2.2.2.2.2.2.1, S.2.2.2.2.2.1.2.2.2.2.2.2.2.2.2.2.2.2.2.1, S.2.2.2.2.2.1.2.2.2.2.2.2.2.2.2.2.2.2.2.2.1, S.2.2.2.2.2.1.2.2.2.2.2.2.2.2.2.2.2.2.2.2.2), S.2.2.2.2.2.2)
def w_back (S : MS) (x : Nat → Nat) : MS := (S.1, S.2.1, S.2.2.1, S.2.2.2.1, S.2.2.2.2.1, (S.2.2.2.2.2.1.1, S.2.2.2.2.2.1.2.1, S.2.2.2.2.2.1.2.2.1, S.2.2.2.2.2.1.2.2.2.1, x, S.2.2.2.2.2.1.2.2.2.2.2.1, S.2.2.2.2.2.1.2.2.2.2.2.2.1, S.2.2.2.2.2.1.2.2.2.2.2.2.2.1, S.2.2.2.2.2.1.2.2.2.2.2.2.2.2.1, S.2.2.2.2.2.1.2.2.2.2.2.2.2.2.2.1, S.2.2.2.2.2.1.2.2.2.2.2.2.2.2.2.2.1, S.2.2.2.2.2.1.2.2.2.2.2.2.2.2.2.2.2.1, S.2.2.2.2.2.1.2.2.2.2.2.2.2.2.2.2.2.2.1, S.2.2.2.2.2.1.2.2.2.2.2.2.2.2.2.2.2.2.2.1, S.2.2.2.2.2.1.2.2.2.2.2.2.2.2.2.2.2.2.2.2.1, S.2.2.2.2.2.1.2.2.2.2.2.2.2.2.2.2.2.2.2.2.2), S.2.2.2.2.2.2)
def w_level (S : MS) (x : Nat → Nat) : MS := (S.1, S.2.1, S.2.2.1, S.2.2.2.1, S.2.2.2.2.1, (S.2.2.2.2.2.1.1, S.2.2.2.2.2.1.2.1, S.2.2.2.2.2.1.2.2.1, S.2.2.2.2.2.1.2.2.2.1, S.2.2.2.2.2.1.2.2.2.2.1, x, S.2.2.2.2.2.1.2.2.2.2.2.2.1, S.2.2.2.2.2.1.2.2.2.2.2.2.2.1, S.2.2.2.2.2.1.2.2.2.2.2.2.2.2.1, S.2.2.2.2.2.1.2.2.2.2.2.2.2.2.2.1, S.2.2.2.2.2.1.2.2.2.2.2.2.2.2.2.2.1, S.2.2.2.2.2.1.2.2.2.2.2.2.2.2.2.2.2.1, S.2.2.2.2.2.1.2.2.2.2.2.2.2.2.2.2.2.2.1, S.2.2.2.2.2.1.2.2.2.2.2.2.2.2.2.2.2.2.2.1, S.2.2.2.2.2.1.2.2.2.2.2.2.2.2.2.2.2.2.2.2.1, S.2.2.2.2.2.1.2.2.2.2.2.2.2.2.2.2.2.2.2.2.2), S.2.2.2.2.2.2)
def w_doing (S : MS) (x : Nat → Nat) : MS := (S.1, S.2.1, S.2.2.1, S.2.2.2.1, S.2.2.2.2.1, (S.2.2.2.2.2.1.1, S.2.2.2.2.2.1.2.1, S.2.2.2.2.2.1.2.2.1, S.2.2.2.2.2.1.2.2.2.1, S.2.2.2.2.2.1.2.2.2.2.1, S.2.2.2.2.2.1.2.2.2.2.2.1, x, S.2.2.2.2.2.1.2.2.2.2.2.2.2.1, S.2.2.2.2.2.1.2.2.2.2.2.2.2.2.1, S.2.2.2.2.2.1.2.2.2.2.2.2.2.2.2.1, S.2.2.2.2.2.1.2.2.2.2.2.2.2.2.2.2.1, S.2.2.2.2.2.1.2.2.2.2.2.2.2.2.2.2.2.1, S.2.2.2.2.2.1.2.2.2.2.2.2.2.2.2.2.2.2.1, S.2.2.2.2.2.1.2.2.2.2.2.2.2.2.2.2.2.2.2.1, S.2.2.2.2.2.1.2.2.2.2.2.2.2.2.2.2.2.2.2.2.1, S.2.2.2.2.2.1.2.2.2.2.2.2.2.2.2.2.2.2.2.2.2), S.2.2.2.2.2.2)
def w_doneAt (S : MS) (x : Nat → Nat) : MS := (S.1, S.2.1, S.2.2.1, S.2.2.2.1, S.2.2.2.2.1, (S.2.2.2.2.2.1.1, S.2.2.2.2.2.1.2.1, S.2.2.2.2.2.1.2.2.1, S.2.2.2.2.2.1.2.2.2.1, S.2.2.2.2.2.1.2.2.2.2.1, S.2.2.2.2.2.1.2.2.2.2.2.1, S.2.2.2.2.2.1.2.2.2.2.2.2.1, x, S.2.2.2.2.2.1.2.2.2.2.2.2.2.2.1, S.2.2.2.2.2.1.2.2.2.2.2.2.2.2.2.1, S.2.2.2.2.2.1.2.2.2.2.2.2.2.2.2.2.1, S.2.2.2.2.2.1.2.2.2.2.2.2.2.2.2.2.2.1, S.2.2.2.2.2.1.2.2.2.2.2.2.2.2.2.2.2.2.1, S.2.2.2.2.2.1.2.2.2.2.2.2.2.2.2.2.2.2.2.1, S.2.2.2.2.2.1.2.2.2.2.2.2.2.2.2.2.2.2.2.2.1, S.2.2.2.2.2.1.2.2.2.2.2.2.2.2.2.2.2.2.2.2.2), S.2.2.2.2.2.2)
def w_frame (S : MS) (x : Option Nat) : MS := (S.1, S.2.1, S.2.2.1, S.2.2.2.1, S.2.2.2.2.1, (S.2.2.2.2.2.1.1, S.2.2.2.2.2.1.2.1, S.2.2.2.2.2.1.2.2.1, S.2.2.2.2.2.1.2.2.2.1, S.2.2.2.2.2.1.2.2.2.2.1, S.2.2.2.2.2.1.2.2.2.2.2.1, S.2.2.2.2.2.1.2.2.2.2.2.2.1, S.2.2.2.2.2.1.2.2.2.2.2.2.2.1, x, S.2.2.2.2.2.1.2.2.2.2.2.2.2.2.2.1, S.2.2.2.2.2.1.2.2.2.2.2.2.2.2.2.2.1, S.2.2.2.2.2.1.2.2.2.2.2.2.2.2.2.2.2.1, S.2.2.2.2.2.1.2.2.2.2.2.2.2.2.2.2.2.2.1, S.2.2.2.2.2.1.2.2.2.2.2.2.2.2.2.2.2.2.2.1, S.2.2.2.2.2.1.2.2.2.2.2.2.2.2.2.2.2.2.2.2.1, S.2.2.2.2.2.1.2.2.2.2.2.2.2.2.2.2.2.2.2.2.2), S.2.2.2.2.2.2)
def w_pc (S : MS) (x : Nat) : MS := (S.1, S.2.1, S.2.2.1, S.2.2.2.1, S.2.2.2.2.1, (S.2.2.2.2.2.1.1, S.2.2.2.2.2.1.2.1, S.2.2.2.2.2.1.2.2.1, S.2.2.2.2.2.1.2.2.2.1, S.2.2.2.2.2.1.2.2.2.2.1, S.2.2.2.2.2.1.2.2.2.2.2.1, S.2.2.2.2.2.1.2.2.2.2.2.2.1, S.2.2.2.2.2.1.2.2.2.2.2.2.2.1, S.2.2.2.2.2.1.2.2.2.2.2.2.2.2.1, x, S.2.2.2.2.2.1.2.2.2.2.2.2.2.2.2.2.1, S.2.2.2.2.2.1.2.2.2.2.2.2.2.2.2.2.2.1, S.2.2.2.2.2.1.2.2.2.2.2.2.2.2.2.2.2.2.1, S.2.2.2.2.2.1.2.2.2.2.2.2.2.2.2.2.2.2.2.1, S.2.2.2.2.2.1.2.2.2.2.2.2.2.2.2.2.2.2.2.2.1, S.2.2.2.2.2.1.2.2.2.2.2.2.2.2.2.2.2.2.2.2.2), S.2.2.2.2.2.2)
def w_failure (S : MS) (x : Nat) : MS := (S.1, S.2.1, S.2.2.1, S.2.2.2.1, S.2.2.2.2.1, (S.2.2.2.2.2.1.1, S.2.2.2.2.2.1.2.1, S.2.2.2.2.2.1.2.2.1, S.2.2.2.2.2.1.2.2.2.1, S.2.2.2.2.2.1.2.2.2.2.1, S.2.2.2.2.2.1.2.2.2.2.2.1, S.2.2.2.2.2.1.2.2.2.2.2.2.1, S.2.2.2.2.2.1.2.2.2.2.2.2.2.1, S.2.2.2.2.2.1.2.2.2.2.2.2.2.2.1, S.2.2.2.2.2.1.2.2.2.2.2.2.2.2.2.1, x, S.2.2.2.2.2.1.2.2.2.2.2.2.2.2.2.2.2.1, S.2.2.2.2.2.1.2.2.2.2.2.2.2.2.2.2.2.2.1, S.2.2.2.2.2.1.2.2.2.2.2.2.2.2.2.2.2.2.2.1, S.2.2.2.2.2.1.2.2.2.2.2.2.2.2.2.2.2.2.2.2.1, S.2.2.2.2.2.1.2.2.2.2.2.2.2.2.2.2.2.2.2.2.2), S.2.2.2.2.2.2)
def w_steps (S : MS) (x : Nat) : MS := (S.1, S.2.1, S.2.2.1, S.2.2.2.1, S.2.2.2.2.1, (S.2.2.2.2.2.1.1, S.2.2.2.2.2.1.2.1, S.2.2.2.2.2.1.2.2.1, S.2.2.2.2.2.1.2.2.2.1, S.2.2.2.2.2.1.2.2.2.2.1, S.2.2.2.2.2.1.2.2.2.2.2.1, S.2.2.2.2.2.1.2.2.2.2.2.2.1, S.2.2.2.2.2.1.2.2.2.2.2.2.2.1, S.2.2.2.2.2.1.2.2.2.2.2.2.2.2.1, S.2.2.2.2.2.1.2.2.2.2.2.2.2.2.2.1, S.2.2.2.2.2.1.2.2.2.2.2.2.2.2.2.2.1, x, S.2.2.2.2.2.1.2.2.2.2.2.2.2.2.2.2.2.2.1, S.2.2.2.2.2.1.2.2.2.2.2.2.2.2.2.2.2.2.2.1, S.2.2.2.2.2.1.2.2.2.2.2.2.2.2.2.2.2.2.2.2.1, S.2.2.2.2.2.1.2.2.2.2.2.2.2.2.2.2.2.2.2.2.2), S.2.2.2.2.2.2)
def w_greatest (S : MS) (x : Nat) : MS := (S.1, S.2.1, S.2.2.1, S.2.2.2.1, S.2.2.2.2.1, (S.2.2.2.2.2.1.1, S.2.2.2.2.2.1.2.1, S.2.2.2.2.2.1.2.2.1, S.2.2.2.2.2.1.2.2.2.1, S.2.2.2.2.2.1.2.2.2.2.1, S.2.2.2.2.2.1.2.2.2.2.2.1, S.2.2.2.2.2.1.2.2.2.2.2.2.1, S.2.2.2.2.2.1.2.2.2.2.2.2.2.1, S.2.2.2.2.2.1.2.2.2.2.2.2.2.2.1, S.2.2.2.2.2.1.2.2.2.2.2.2.2.2.2.1, S.2.2.2.2.2.1.2.2.2.2.2.2.2.2.2.2.1, S.2.2.2.2.2.1.2.2.2.2.2.2.2.2.2.2.2.1, x, S.2.2.2.2.2.1.2.2.2.2.2.2.2.2.2.2.2.2.2.1, S.2.2.2.2.2.1.2.2.2.2.2.2.2.2.2.2.2.2.2.2.1, S.2.2.2.2.2.1.2.2.2.2.2.2.2.2.2.2.2.2.2.2.2), S.2.2.2.2.2.2)
def w_lost (S : MS) (x : Nat) : MS := (S.1, S.2.1, S.2.2.1, S.2.2.2.1, S.2.2.2.2.1, (S.2.2.2.2.2.1.1, S.2.2.2.2.2.1.2.1, S.2.2.2.2.2.1.2.2.1, S.2.2.2.2.2.1.2.2.2.1, S.2.2.2.2.2.1.2.2.2.2.1, S.2.2.2.2.2.1.2.2.2.2.2.1, S.2.2.2.2.2.1.2.2.2.2.2.2.1, S.2.2.2.2.2.1.2.2.2.2.2.2.2.1, S.2.2.2.2.2.1.2.2.2.2.2.2.2.2.1, S.2.2.2.2.2.1.2.2.2.2.2.2.2.2.2.1, S.2.2.2.2.2.1.2.2.2.2.2.2.2.2.2.2.1, S.2.2.2.2.2.1.2.2.2.2.2.2.2.2.2.2.2.1, S.2.2.2.2.2.1.2.2.2.2.2.2.2.2.2.2.2.2.1, x, S.2.2.2.2.2.1.2.2.2.2.2.2.2.2.2.2.2.2.2.2.1, S.2.2.2.2.2.1.2.2.2.2.2.2.2.2.2.2.2.2.2.2.2), S.2.2.2.2.2.2)
def w_output (S : MS) (x : Nat → Int32) : MS := (S.1, S.2.1, S.2.2.1, S.2.2.2.1, S.2.2.2.2.1, (S.2.2.2.2.2.1.1, S.2.2.2.2.2.1.2.1, S.2.2.2.2.2.1.2.2.1, S.2.2.2.2.2.1.2.2.2.1, S.2.2.2.2.2.1.2.2.2.2.1, S.2.2.2.2.2.1.2.2.2.2.2.1, S.2.2.2.2.2.1.2.2.2.2.2.2.1, S.2.2.2.2.2.1.2.2.2.2.2.2.2.1, S.2.2.2.2.2.1.2.2.2.2.2.2.2.2.1, S.2.2.2.2.2.1.2.2.2.2.2.2.2.2.2.1, S.2.2.2.2.2.1.2.2.2.2.2.2.2.2.2.2.1, S.2.2.2.2.2.1.2.2.2.2.2.2.2.2.2.2.2.1, S.2.2.2.2.2.1.2.2.2.2.2.2.2.2.2.2.2.2.1, S.2.2.2.2.2.1.2.2.2.2.2.2.2.2.2.2.2.2.2.1, x, S.2.2.2.2.2.1.2.2.2.2.2.2.2.2.2.2.2.2.2.2.2), S.2.2.2.2.2.2)
def w_written (S : MS) (x : Nat) : MS := (S.1, S.2.1, S.2.2.1, S.2.2.2.1, S.2.2.2.2.1, (S.2.2.2.2.2.1.1, S.2.2.2.2.2.1.2.1, S.2.2.2.2.2.1.2.2.1, S.2.2.2.2.2.1.2.2.2.1, S.2.2.2.2.2.1.2.2.2.2.1, S.2.2.2.2.2.1.2.2.2.2.2.1, S.2.2.2.2.2.1.2.2.2.2.2.2.1, S.2.2.2.2.2.1.2.2.2.2.2.2.2.1, S.2.2.2.2.2.1.2.2.2.2.2.2.2.2.1, S.2.2.2.2.2.1.2.2.2.2.2.2.2.2.2.1, S.2.2.2.2.2.1.2.2.2.2.2.2.2.2.2.2.1, S.2.2.2.2.2.1.2.2.2.2.2.2.2.2.2.2.2.1, S.2.2.2.2.2.1.2.2.2.2.2.2.2.2.2.2.2.2.1, S.2.2.2.2.2.1.2.2.2.2.2.2.2.2.2.2.2.2.2.1, S.2.2.2.2.2.1.2.2.2.2.2.2.2.2.2.2.2.2.2.2.1, x), S.2.2.2.2.2.2)
def w_sum (S : MS) (x : Nat → Int32) : MS := (S.1, S.2.1, S.2.2.1, S.2.2.2.1, S.2.2.2.2.1, S.2.2.2.2.2.1, (x, S.2.2.2.2.2.2.2.1, S.2.2.2.2.2.2.2.2.1, S.2.2.2.2.2.2.2.2.2.1, S.2.2.2.2.2.2.2.2.2.2))
def w_term (S : MS) (x : Nat → Int32) : MS := (S.1, S.2.1, S.2.2.1, S.2.2.2.1, S.2.2.2.2.1, S.2.2.2.2.2.1, (S.2.2.2.2.2.2.1, x, S.2.2.2.2.2.2.2.2.1, S.2.2.2.2.2.2.2.2.2.1, S.2.2.2.2.2.2.2.2.2.2))
def w_sumSign (S : MS) (x : Nat → Nat) : MS := (S.1, S.2.1, S.2.2.1, S.2.2.2.1, S.2.2.2.2.1, S.2.2.2.2.2.1, (S.2.2.2.2.2.2.1, S.2.2.2.2.2.2.2.1, x, S.2.2.2.2.2.2.2.2.2.1, S.2.2.2.2.2.2.2.2.2.2))
def w_termSign (S : MS) (x : Nat → Nat) : MS := (S.1, S.2.1, S.2.2.1, S.2.2.2.1, S.2.2.2.2.1, S.2.2.2.2.2.1, (S.2.2.2.2.2.2.1, S.2.2.2.2.2.2.2.1, S.2.2.2.2.2.2.2.2.1, x, S.2.2.2.2.2.2.2.2.2.2))
def w_given (S : MS) (x : Nat → Int32) : MS := (S.1, S.2.1, S.2.2.1, S.2.2.2.1, S.2.2.2.2.1, S.2.2.2.2.2.1, (S.2.2.2.2.2.2.1, S.2.2.2.2.2.2.2.1, S.2.2.2.2.2.2.2.2.1, S.2.2.2.2.2.2.2.2.2.1, x))
def mw (z : Zt) (b : Nat → Nat) (S : MS) : va_W := [
  (b 0, .inr (6, [.int (nI (r_thrown S)), .ref (b 1), .int (nI (r_length S)), .ref (b 2), .ref (b 3), .ref (b 4), .ref (b 5), .ref (b 6), .ref (b 7), .int (nI (r_tokens S)), .ref (b 8), .ref (b 9), .ref (b 10), .ref (b 11), .int (bI (r_program S)), .int (r_fault S), .ref (b 12), .ref (b 13), .ref (b 14), .ref (b 15), .ref (b 16), .int (nI (r_symbols S)), .int (nI (r_variables S)), .int (nI (r_procedures S)), .ref (b 17), .ref (b 18), .int (nI (r_blocks S)), .int (nI (r_block S)), .ref (b 19), .ref (b 20), .ref (b 21), .ref (b 22), .ref (b 23), .int (nI (r_at S)), .int (fI (r_wrong S)), .ref (b 24), .ref (b 25), .int (nI (r_deep S)), .ref (b 26), .ref (b 27), .ref (b 28), .ref (b 29), .ref (b 30), .ref (b 31), .ref (b 32), .ref (b 33), .int (fI (r_frame S)), .int (nI (r_pc S)), .int (nI (r_failure S)), .int (nI (r_steps S)), .int (nI (r_greatest S)), .int (nI (r_lost S)), .ref (b 34), .int (nI (r_written S)), .ref (b 35), .ref (b 36), .ref (b 37), .ref (b 38), .ref (b 39)])),
  (b 1, .inl (z.2.1.1, 300, .inl (fun j => nI (r_text S j)))),
  (b 2, .inl (z.2.1.1, 155, .inl (fun j => nI (r_kind S j)))),
  (b 3, .inl (z.2.1.2.1, 155, .inr (.inl (r_word S)))),
  (b 4, .inl (z.2.1.1, 155, .inl (fun j => nI (r_from S j)))),
  (b 5, .inl (z.2.1.1, 155, .inl (fun j => nI (r_to S j)))),
  (b 6, .inl (z.2.1.1, 155, .inl (fun j => nI (r_means S j)))),
  (b 7, .inl (z.2.1.1, 155, .inl (fun j => nI (r_next S j)))),
  (b 8, .inl (z.2.1.1, 155, .inl (fun j => nI (r_pKind S j)))),
  (b 9, .inl (z.2.1.1, 155, .inl (r_pWord S))),
  (b 10, .inl (z.2.1.1, 155, .inl (fun j => nI (r_pMeans S j)))),
  (b 11, .inl (z.2.1.1, 155, .inl (fun j => nI (r_pNext S j)))),
  (b 12, .inl (z.2.1.2.1, 18, .inr (.inl (r_name S)))),
  (b 13, .inl (z.2.1.1, 18, .inl (fun j => nI (r_sort S j)))),
  (b 14, .inl (z.2.1.1, 18, .inl (fun j => nI (r_home S j)))),
  (b 15, .inl (z.2.1.1, 18, .inl (fun j => nI (r_own S j)))),
  (b 16, .inl (z.2.1.1, 18, .inl (fun j => nI (r_wants S j)))),
  (b 17, .inl (z.2.1.1, 8, .inl (fun j => fI (r_around S j)))),
  (b 18, .inl (z.2.1.1, 8, .inl (fun j => nI (r_body S j)))),
  (b 19, .inl (z.2.1.1, 18, .inl (fun j => nI (r_pSort S j)))),
  (b 20, .inl (z.2.1.1, 18, .inl (fun j => nI (r_pHome S j)))),
  (b 21, .inl (z.2.1.1, 18, .inl (fun j => nI (r_pOwn S j)))),
  (b 22, .inl (z.2.1.1, 18, .inl (fun j => nI (r_pWants S j)))),
  (b 23, .inl (z.2.1.1, 8, .inl (fun j => nI (r_pBody S j)))),
  (b 24, .inl (z.2.1.1, 10, .inl (fun j => nI (r_within S j)))),
  (b 25, .inl (z.2.1.1, 10, .inl (fun j => nI (r_since S j)))),
  (b 26, .inl (z.2.1.1, 132, .inl (r_cell S))),
  (b 27, .inl (z.2.1.1, 132, .inl (fun j => nI (r_stands S j)))),
  (b 28, .inl (z.2.1.1, 11, .inl (fun j => nI (r_blockOf S j)))),
  (b 29, .inl (z.2.1.1, 11, .inl (fun j => fI (r_outer S j)))),
  (b 30, .inl (z.2.1.1, 11, .inl (fun j => nI (r_back S j)))),
  (b 31, .inl (z.2.1.1, 11, .inl (fun j => nI (r_level S j)))),
  (b 32, .inl (z.2.1.1, 110, .inl (fun j => nI (r_doing S j)))),
  (b 33, .inl (z.2.1.1, 110, .inl (fun j => nI (r_doneAt S j)))),
  (b 34, .inl (z.2.1.1, 32, .inl (r_output S))),
  (b 35, .inl (z.2.1.1, 10, .inl (r_sum S))),
  (b 36, .inl (z.2.1.1, 10, .inl (r_term S))),
  (b 37, .inl (z.2.1.1, 10, .inl (fun j => nI (r_sumSign S j)))),
  (b 38, .inl (z.2.1.1, 10, .inl (fun j => nI (r_termSign S j)))),
  (b 39, .inl (z.2.1.1, 3, .inl (r_given S)))]
theorem up_fI (f : Nat → Option Nat) (k : Nat) (v : Option Nat) : upd (fun j => fI (f j)) k (fI v) = fun j => fI (va_up f k v j) := by
  funext j
  unfold upd va_up
  split <;> rfl
section VM
variable {p : Program} {l : Launch} {e : Env} {R : Room} {s : State} {m : MethodId} {args : Array Value} {below : List Frame} {meth : Method} {c : Code} {z : Zt} {nL cells slots : Nat} {Q : State → Prop} {pc : Nat} {lv : List (Nat × Value)} {sk : List Value}
variable {cc : ByteArray} {ret : Option FieldType} {own : String} {b : Nat → Nat} {S : MS}
theorem g_Mo_thrown (X : Cx p s m args meth c (Gz z) cc nL ret own) {i : Nat} {x : Nat} (hx : r_thrown S = x) (hw : Cond.fieldLink own i "PascalMachineModel" "thrown" "I" ∈ gt) (hd : decode cc pc = .ok (.getfield i, 3)) (kk : V p l e R s m args below meth c (Gz z) nL cells slots Q (mw z b S) (pc + 3) lv (.int (nI x) :: sk)) : V p l e R s m args below meth c (Gz z) nL cells slots Q (mw z b S) pc lv (.ref (b 0) :: sk) := by
  subst hx
  exact V.get X in_Mo 0 rfl rfl 0 (by decide) hw rfl hd kk
theorem p_Mo_thrown (X : Cx p s m args meth c (Gz z) cc nL ret own) {i : Nat} {x : Nat} (hw : Cond.fieldLink own i "PascalMachineModel" "thrown" "I" ∈ gt) (hd : decode cc pc = .ok (.putfield i, 3)) (kk : V p l e R s m args below meth c (Gz z) nL cells slots Q (mw z b (w_thrown S x)) (pc + 3) lv (sk)) : V p l e R s m args below meth c (Gz z) nL cells slots Q (mw z b S) pc lv (.int (nI x) :: .ref (b 0) :: sk) := V.put (ty := .int) X in_Mo t_Mo t_Mo_ok n_Mo 0 rfl rfl 0 (by decide) hw rfl (by decide +kernel) (vp_nar_int _) rfl (Nat.le_of_ble_eq_true rfl) rfl hd kk
theorem g_Mo_text (X : Cx p s m args meth c (Gz z) cc nL ret own) {i : Nat} (hw : Cond.fieldLink own i "PascalMachineModel" "text" "[I" ∈ gt) (hd : decode cc pc = .ok (.getfield i, 3)) (kk : V p l e R s m args below meth c (Gz z) nL cells slots Q (mw z b S) (pc + 3) lv (.ref (b 1) :: sk)) : V p l e R s m args below meth c (Gz z) nL cells slots Q (mw z b S) pc lv (.ref (b 0) :: sk) := V.get X in_Mo 0 rfl rfl 1 (by decide) hw rfl hd kk
theorem g_Mo_length (X : Cx p s m args meth c (Gz z) cc nL ret own) {i : Nat} {x : Nat} (hx : r_length S = x) (hw : Cond.fieldLink own i "PascalMachineModel" "length" "I" ∈ gt) (hd : decode cc pc = .ok (.getfield i, 3)) (kk : V p l e R s m args below meth c (Gz z) nL cells slots Q (mw z b S) (pc + 3) lv (.int (nI x) :: sk)) : V p l e R s m args below meth c (Gz z) nL cells slots Q (mw z b S) pc lv (.ref (b 0) :: sk) := by
  subst hx
  exact V.get X in_Mo 0 rfl rfl 2 (by decide) hw rfl hd kk
theorem p_Mo_length (X : Cx p s m args meth c (Gz z) cc nL ret own) {i : Nat} {x : Nat} (hw : Cond.fieldLink own i "PascalMachineModel" "length" "I" ∈ gt) (hd : decode cc pc = .ok (.putfield i, 3)) (kk : V p l e R s m args below meth c (Gz z) nL cells slots Q (mw z b (w_length S x)) (pc + 3) lv (sk)) : V p l e R s m args below meth c (Gz z) nL cells slots Q (mw z b S) pc lv (.int (nI x) :: .ref (b 0) :: sk) := V.put (ty := .int) X in_Mo t_Mo t_Mo_ok n_Mo 0 rfl rfl 2 (by decide) hw rfl (by decide +kernel) (vp_nar_int _) rfl (Nat.le_of_ble_eq_true rfl) rfl hd kk
theorem g_Mo_kind (X : Cx p s m args meth c (Gz z) cc nL ret own) {i : Nat} (hw : Cond.fieldLink own i "PascalMachineModel" "kind" "[I" ∈ gt) (hd : decode cc pc = .ok (.getfield i, 3)) (kk : V p l e R s m args below meth c (Gz z) nL cells slots Q (mw z b S) (pc + 3) lv (.ref (b 2) :: sk)) : V p l e R s m args below meth c (Gz z) nL cells slots Q (mw z b S) pc lv (.ref (b 0) :: sk) := V.get X in_Mo 0 rfl rfl 3 (by decide) hw rfl hd kk
theorem g_Mo_word (X : Cx p s m args meth c (Gz z) cc nL ret own) {i : Nat} (hw : Cond.fieldLink own i "PascalMachineModel" "word" "[J" ∈ gt) (hd : decode cc pc = .ok (.getfield i, 3)) (kk : V p l e R s m args below meth c (Gz z) nL cells slots Q (mw z b S) (pc + 3) lv (.ref (b 3) :: sk)) : V p l e R s m args below meth c (Gz z) nL cells slots Q (mw z b S) pc lv (.ref (b 0) :: sk) := V.get X in_Mo 0 rfl rfl 4 (by decide) hw rfl hd kk
theorem g_Mo_from (X : Cx p s m args meth c (Gz z) cc nL ret own) {i : Nat} (hw : Cond.fieldLink own i "PascalMachineModel" "from" "[I" ∈ gt) (hd : decode cc pc = .ok (.getfield i, 3)) (kk : V p l e R s m args below meth c (Gz z) nL cells slots Q (mw z b S) (pc + 3) lv (.ref (b 4) :: sk)) : V p l e R s m args below meth c (Gz z) nL cells slots Q (mw z b S) pc lv (.ref (b 0) :: sk) := V.get X in_Mo 0 rfl rfl 5 (by decide) hw rfl hd kk
theorem g_Mo_to (X : Cx p s m args meth c (Gz z) cc nL ret own) {i : Nat} (hw : Cond.fieldLink own i "PascalMachineModel" "to" "[I" ∈ gt) (hd : decode cc pc = .ok (.getfield i, 3)) (kk : V p l e R s m args below meth c (Gz z) nL cells slots Q (mw z b S) (pc + 3) lv (.ref (b 5) :: sk)) : V p l e R s m args below meth c (Gz z) nL cells slots Q (mw z b S) pc lv (.ref (b 0) :: sk) := V.get X in_Mo 0 rfl rfl 6 (by decide) hw rfl hd kk
theorem g_Mo_means (X : Cx p s m args meth c (Gz z) cc nL ret own) {i : Nat} (hw : Cond.fieldLink own i "PascalMachineModel" "means" "[I" ∈ gt) (hd : decode cc pc = .ok (.getfield i, 3)) (kk : V p l e R s m args below meth c (Gz z) nL cells slots Q (mw z b S) (pc + 3) lv (.ref (b 6) :: sk)) : V p l e R s m args below meth c (Gz z) nL cells slots Q (mw z b S) pc lv (.ref (b 0) :: sk) := V.get X in_Mo 0 rfl rfl 7 (by decide) hw rfl hd kk
theorem g_Mo_next (X : Cx p s m args meth c (Gz z) cc nL ret own) {i : Nat} (hw : Cond.fieldLink own i "PascalMachineModel" "next" "[I" ∈ gt) (hd : decode cc pc = .ok (.getfield i, 3)) (kk : V p l e R s m args below meth c (Gz z) nL cells slots Q (mw z b S) (pc + 3) lv (.ref (b 7) :: sk)) : V p l e R s m args below meth c (Gz z) nL cells slots Q (mw z b S) pc lv (.ref (b 0) :: sk) := V.get X in_Mo 0 rfl rfl 8 (by decide) hw rfl hd kk
theorem g_Mo_tokens (X : Cx p s m args meth c (Gz z) cc nL ret own) {i : Nat} {x : Nat} (hx : r_tokens S = x) (hw : Cond.fieldLink own i "PascalMachineModel" "tokens" "I" ∈ gt) (hd : decode cc pc = .ok (.getfield i, 3)) (kk : V p l e R s m args below meth c (Gz z) nL cells slots Q (mw z b S) (pc + 3) lv (.int (nI x) :: sk)) : V p l e R s m args below meth c (Gz z) nL cells slots Q (mw z b S) pc lv (.ref (b 0) :: sk) := by
  subst hx
  exact V.get X in_Mo 0 rfl rfl 9 (by decide) hw rfl hd kk
theorem p_Mo_tokens (X : Cx p s m args meth c (Gz z) cc nL ret own) {i : Nat} {x : Nat} (hw : Cond.fieldLink own i "PascalMachineModel" "tokens" "I" ∈ gt) (hd : decode cc pc = .ok (.putfield i, 3)) (kk : V p l e R s m args below meth c (Gz z) nL cells slots Q (mw z b (w_tokens S x)) (pc + 3) lv (sk)) : V p l e R s m args below meth c (Gz z) nL cells slots Q (mw z b S) pc lv (.int (nI x) :: .ref (b 0) :: sk) := V.put (ty := .int) X in_Mo t_Mo t_Mo_ok n_Mo 0 rfl rfl 9 (by decide) hw rfl (by decide +kernel) (vp_nar_int _) rfl (Nat.le_of_ble_eq_true rfl) rfl hd kk
theorem g_Mo_pKind (X : Cx p s m args meth c (Gz z) cc nL ret own) {i : Nat} (hw : Cond.fieldLink own i "PascalMachineModel" "pKind" "[I" ∈ gt) (hd : decode cc pc = .ok (.getfield i, 3)) (kk : V p l e R s m args below meth c (Gz z) nL cells slots Q (mw z b S) (pc + 3) lv (.ref (b 8) :: sk)) : V p l e R s m args below meth c (Gz z) nL cells slots Q (mw z b S) pc lv (.ref (b 0) :: sk) := V.get X in_Mo 0 rfl rfl 10 (by decide) hw rfl hd kk
theorem g_Mo_pWord (X : Cx p s m args meth c (Gz z) cc nL ret own) {i : Nat} (hw : Cond.fieldLink own i "PascalMachineModel" "pWord" "[I" ∈ gt) (hd : decode cc pc = .ok (.getfield i, 3)) (kk : V p l e R s m args below meth c (Gz z) nL cells slots Q (mw z b S) (pc + 3) lv (.ref (b 9) :: sk)) : V p l e R s m args below meth c (Gz z) nL cells slots Q (mw z b S) pc lv (.ref (b 0) :: sk) := V.get X in_Mo 0 rfl rfl 11 (by decide) hw rfl hd kk
theorem g_Mo_pMeans (X : Cx p s m args meth c (Gz z) cc nL ret own) {i : Nat} (hw : Cond.fieldLink own i "PascalMachineModel" "pMeans" "[I" ∈ gt) (hd : decode cc pc = .ok (.getfield i, 3)) (kk : V p l e R s m args below meth c (Gz z) nL cells slots Q (mw z b S) (pc + 3) lv (.ref (b 10) :: sk)) : V p l e R s m args below meth c (Gz z) nL cells slots Q (mw z b S) pc lv (.ref (b 0) :: sk) := V.get X in_Mo 0 rfl rfl 12 (by decide) hw rfl hd kk
theorem g_Mo_pNext (X : Cx p s m args meth c (Gz z) cc nL ret own) {i : Nat} (hw : Cond.fieldLink own i "PascalMachineModel" "pNext" "[I" ∈ gt) (hd : decode cc pc = .ok (.getfield i, 3)) (kk : V p l e R s m args below meth c (Gz z) nL cells slots Q (mw z b S) (pc + 3) lv (.ref (b 11) :: sk)) : V p l e R s m args below meth c (Gz z) nL cells slots Q (mw z b S) pc lv (.ref (b 0) :: sk) := V.get X in_Mo 0 rfl rfl 13 (by decide) hw rfl hd kk
theorem g_Mo_program (X : Cx p s m args meth c (Gz z) cc nL ret own) {i : Nat} {x : Bool} (hx : r_program S = x) (hw : Cond.fieldLink own i "PascalMachineModel" "program" "Z" ∈ gt) (hd : decode cc pc = .ok (.getfield i, 3)) (kk : V p l e R s m args below meth c (Gz z) nL cells slots Q (mw z b S) (pc + 3) lv (.int (bI x) :: sk)) : V p l e R s m args below meth c (Gz z) nL cells slots Q (mw z b S) pc lv (.ref (b 0) :: sk) := by
  subst hx
  exact V.get X in_Mo 0 rfl rfl 14 (by decide) hw rfl hd kk
theorem p_Mo_program (X : Cx p s m args meth c (Gz z) cc nL ret own) {i : Nat} {x : Bool} (hw : Cond.fieldLink own i "PascalMachineModel" "program" "Z" ∈ gt) (hd : decode cc pc = .ok (.putfield i, 3)) (kk : V p l e R s m args below meth c (Gz z) nL cells slots Q (mw z b (w_program S x)) (pc + 3) lv (sk)) : V p l e R s m args below meth c (Gz z) nL cells slots Q (mw z b S) pc lv (.int (bI x) :: .ref (b 0) :: sk) := V.put (ty := .boolean) X in_Mo t_Mo t_Mo_ok n_Mo 0 rfl rfl 14 (by decide) hw rfl (by decide +kernel) (by cases x <;> decide +kernel) (by cases x <;> rfl) (Nat.le_of_ble_eq_true rfl) rfl hd kk
theorem g_Mo_fault (X : Cx p s m args meth c (Gz z) cc nL ret own) {i : Nat} {x : Int32} (hx : r_fault S = x) (hw : Cond.fieldLink own i "PascalMachineModel" "fault" "I" ∈ gt) (hd : decode cc pc = .ok (.getfield i, 3)) (kk : V p l e R s m args below meth c (Gz z) nL cells slots Q (mw z b S) (pc + 3) lv (.int x :: sk)) : V p l e R s m args below meth c (Gz z) nL cells slots Q (mw z b S) pc lv (.ref (b 0) :: sk) := by
  subst hx
  exact V.get X in_Mo 0 rfl rfl 15 (by decide) hw rfl hd kk
theorem p_Mo_fault (X : Cx p s m args meth c (Gz z) cc nL ret own) {i : Nat} {x : Int32} (hw : Cond.fieldLink own i "PascalMachineModel" "fault" "I" ∈ gt) (hd : decode cc pc = .ok (.putfield i, 3)) (kk : V p l e R s m args below meth c (Gz z) nL cells slots Q (mw z b (w_fault S x)) (pc + 3) lv (sk)) : V p l e R s m args below meth c (Gz z) nL cells slots Q (mw z b S) pc lv (.int x :: .ref (b 0) :: sk) := V.put (ty := .int) X in_Mo t_Mo t_Mo_ok n_Mo 0 rfl rfl 15 (by decide) hw rfl (by decide +kernel) (vp_nar_int _) rfl (Nat.le_of_ble_eq_true rfl) rfl hd kk
theorem g_Mo_name (X : Cx p s m args meth c (Gz z) cc nL ret own) {i : Nat} (hw : Cond.fieldLink own i "PascalMachineModel" "name" "[J" ∈ gt) (hd : decode cc pc = .ok (.getfield i, 3)) (kk : V p l e R s m args below meth c (Gz z) nL cells slots Q (mw z b S) (pc + 3) lv (.ref (b 12) :: sk)) : V p l e R s m args below meth c (Gz z) nL cells slots Q (mw z b S) pc lv (.ref (b 0) :: sk) := V.get X in_Mo 0 rfl rfl 16 (by decide) hw rfl hd kk
theorem g_Mo_sort (X : Cx p s m args meth c (Gz z) cc nL ret own) {i : Nat} (hw : Cond.fieldLink own i "PascalMachineModel" "sort" "[I" ∈ gt) (hd : decode cc pc = .ok (.getfield i, 3)) (kk : V p l e R s m args below meth c (Gz z) nL cells slots Q (mw z b S) (pc + 3) lv (.ref (b 13) :: sk)) : V p l e R s m args below meth c (Gz z) nL cells slots Q (mw z b S) pc lv (.ref (b 0) :: sk) := V.get X in_Mo 0 rfl rfl 17 (by decide) hw rfl hd kk
theorem g_Mo_home (X : Cx p s m args meth c (Gz z) cc nL ret own) {i : Nat} (hw : Cond.fieldLink own i "PascalMachineModel" "home" "[I" ∈ gt) (hd : decode cc pc = .ok (.getfield i, 3)) (kk : V p l e R s m args below meth c (Gz z) nL cells slots Q (mw z b S) (pc + 3) lv (.ref (b 14) :: sk)) : V p l e R s m args below meth c (Gz z) nL cells slots Q (mw z b S) pc lv (.ref (b 0) :: sk) := V.get X in_Mo 0 rfl rfl 18 (by decide) hw rfl hd kk
theorem g_Mo_own (X : Cx p s m args meth c (Gz z) cc nL ret own) {i : Nat} (hw : Cond.fieldLink own i "PascalMachineModel" "own" "[I" ∈ gt) (hd : decode cc pc = .ok (.getfield i, 3)) (kk : V p l e R s m args below meth c (Gz z) nL cells slots Q (mw z b S) (pc + 3) lv (.ref (b 15) :: sk)) : V p l e R s m args below meth c (Gz z) nL cells slots Q (mw z b S) pc lv (.ref (b 0) :: sk) := V.get X in_Mo 0 rfl rfl 19 (by decide) hw rfl hd kk
theorem g_Mo_wants (X : Cx p s m args meth c (Gz z) cc nL ret own) {i : Nat} (hw : Cond.fieldLink own i "PascalMachineModel" "wants" "[I" ∈ gt) (hd : decode cc pc = .ok (.getfield i, 3)) (kk : V p l e R s m args below meth c (Gz z) nL cells slots Q (mw z b S) (pc + 3) lv (.ref (b 16) :: sk)) : V p l e R s m args below meth c (Gz z) nL cells slots Q (mw z b S) pc lv (.ref (b 0) :: sk) := V.get X in_Mo 0 rfl rfl 20 (by decide) hw rfl hd kk
theorem g_Mo_symbols (X : Cx p s m args meth c (Gz z) cc nL ret own) {i : Nat} {x : Nat} (hx : r_symbols S = x) (hw : Cond.fieldLink own i "PascalMachineModel" "symbols" "I" ∈ gt) (hd : decode cc pc = .ok (.getfield i, 3)) (kk : V p l e R s m args below meth c (Gz z) nL cells slots Q (mw z b S) (pc + 3) lv (.int (nI x) :: sk)) : V p l e R s m args below meth c (Gz z) nL cells slots Q (mw z b S) pc lv (.ref (b 0) :: sk) := by
  subst hx
  exact V.get X in_Mo 0 rfl rfl 21 (by decide) hw rfl hd kk
theorem p_Mo_symbols (X : Cx p s m args meth c (Gz z) cc nL ret own) {i : Nat} {x : Nat} (hw : Cond.fieldLink own i "PascalMachineModel" "symbols" "I" ∈ gt) (hd : decode cc pc = .ok (.putfield i, 3)) (kk : V p l e R s m args below meth c (Gz z) nL cells slots Q (mw z b (w_symbols S x)) (pc + 3) lv (sk)) : V p l e R s m args below meth c (Gz z) nL cells slots Q (mw z b S) pc lv (.int (nI x) :: .ref (b 0) :: sk) := V.put (ty := .int) X in_Mo t_Mo t_Mo_ok n_Mo 0 rfl rfl 21 (by decide) hw rfl (by decide +kernel) (vp_nar_int _) rfl (Nat.le_of_ble_eq_true rfl) rfl hd kk
theorem g_Mo_variables (X : Cx p s m args meth c (Gz z) cc nL ret own) {i : Nat} {x : Nat} (hx : r_variables S = x) (hw : Cond.fieldLink own i "PascalMachineModel" "variables" "I" ∈ gt) (hd : decode cc pc = .ok (.getfield i, 3)) (kk : V p l e R s m args below meth c (Gz z) nL cells slots Q (mw z b S) (pc + 3) lv (.int (nI x) :: sk)) : V p l e R s m args below meth c (Gz z) nL cells slots Q (mw z b S) pc lv (.ref (b 0) :: sk) := by
  subst hx
  exact V.get X in_Mo 0 rfl rfl 22 (by decide) hw rfl hd kk
theorem p_Mo_variables (X : Cx p s m args meth c (Gz z) cc nL ret own) {i : Nat} {x : Nat} (hw : Cond.fieldLink own i "PascalMachineModel" "variables" "I" ∈ gt) (hd : decode cc pc = .ok (.putfield i, 3)) (kk : V p l e R s m args below meth c (Gz z) nL cells slots Q (mw z b (w_variables S x)) (pc + 3) lv (sk)) : V p l e R s m args below meth c (Gz z) nL cells slots Q (mw z b S) pc lv (.int (nI x) :: .ref (b 0) :: sk) := V.put (ty := .int) X in_Mo t_Mo t_Mo_ok n_Mo 0 rfl rfl 22 (by decide) hw rfl (by decide +kernel) (vp_nar_int _) rfl (Nat.le_of_ble_eq_true rfl) rfl hd kk
theorem g_Mo_procedures (X : Cx p s m args meth c (Gz z) cc nL ret own) {i : Nat} {x : Nat} (hx : r_procedures S = x) (hw : Cond.fieldLink own i "PascalMachineModel" "procedures" "I" ∈ gt) (hd : decode cc pc = .ok (.getfield i, 3)) (kk : V p l e R s m args below meth c (Gz z) nL cells slots Q (mw z b S) (pc + 3) lv (.int (nI x) :: sk)) : V p l e R s m args below meth c (Gz z) nL cells slots Q (mw z b S) pc lv (.ref (b 0) :: sk) := by
  subst hx
  exact V.get X in_Mo 0 rfl rfl 23 (by decide) hw rfl hd kk
theorem p_Mo_procedures (X : Cx p s m args meth c (Gz z) cc nL ret own) {i : Nat} {x : Nat} (hw : Cond.fieldLink own i "PascalMachineModel" "procedures" "I" ∈ gt) (hd : decode cc pc = .ok (.putfield i, 3)) (kk : V p l e R s m args below meth c (Gz z) nL cells slots Q (mw z b (w_procedures S x)) (pc + 3) lv (sk)) : V p l e R s m args below meth c (Gz z) nL cells slots Q (mw z b S) pc lv (.int (nI x) :: .ref (b 0) :: sk) := V.put (ty := .int) X in_Mo t_Mo t_Mo_ok n_Mo 0 rfl rfl 23 (by decide) hw rfl (by decide +kernel) (vp_nar_int _) rfl (Nat.le_of_ble_eq_true rfl) rfl hd kk
theorem g_Mo_around (X : Cx p s m args meth c (Gz z) cc nL ret own) {i : Nat} (hw : Cond.fieldLink own i "PascalMachineModel" "around" "[I" ∈ gt) (hd : decode cc pc = .ok (.getfield i, 3)) (kk : V p l e R s m args below meth c (Gz z) nL cells slots Q (mw z b S) (pc + 3) lv (.ref (b 17) :: sk)) : V p l e R s m args below meth c (Gz z) nL cells slots Q (mw z b S) pc lv (.ref (b 0) :: sk) := V.get X in_Mo 0 rfl rfl 24 (by decide) hw rfl hd kk
theorem g_Mo_body (X : Cx p s m args meth c (Gz z) cc nL ret own) {i : Nat} (hw : Cond.fieldLink own i "PascalMachineModel" "body" "[I" ∈ gt) (hd : decode cc pc = .ok (.getfield i, 3)) (kk : V p l e R s m args below meth c (Gz z) nL cells slots Q (mw z b S) (pc + 3) lv (.ref (b 18) :: sk)) : V p l e R s m args below meth c (Gz z) nL cells slots Q (mw z b S) pc lv (.ref (b 0) :: sk) := V.get X in_Mo 0 rfl rfl 25 (by decide) hw rfl hd kk
theorem g_Mo_blocks (X : Cx p s m args meth c (Gz z) cc nL ret own) {i : Nat} {x : Nat} (hx : r_blocks S = x) (hw : Cond.fieldLink own i "PascalMachineModel" "blocks" "I" ∈ gt) (hd : decode cc pc = .ok (.getfield i, 3)) (kk : V p l e R s m args below meth c (Gz z) nL cells slots Q (mw z b S) (pc + 3) lv (.int (nI x) :: sk)) : V p l e R s m args below meth c (Gz z) nL cells slots Q (mw z b S) pc lv (.ref (b 0) :: sk) := by
  subst hx
  exact V.get X in_Mo 0 rfl rfl 26 (by decide) hw rfl hd kk
theorem p_Mo_blocks (X : Cx p s m args meth c (Gz z) cc nL ret own) {i : Nat} {x : Nat} (hw : Cond.fieldLink own i "PascalMachineModel" "blocks" "I" ∈ gt) (hd : decode cc pc = .ok (.putfield i, 3)) (kk : V p l e R s m args below meth c (Gz z) nL cells slots Q (mw z b (w_blocks S x)) (pc + 3) lv (sk)) : V p l e R s m args below meth c (Gz z) nL cells slots Q (mw z b S) pc lv (.int (nI x) :: .ref (b 0) :: sk) := V.put (ty := .int) X in_Mo t_Mo t_Mo_ok n_Mo 0 rfl rfl 26 (by decide) hw rfl (by decide +kernel) (vp_nar_int _) rfl (Nat.le_of_ble_eq_true rfl) rfl hd kk
theorem g_Mo_block (X : Cx p s m args meth c (Gz z) cc nL ret own) {i : Nat} {x : Nat} (hx : r_block S = x) (hw : Cond.fieldLink own i "PascalMachineModel" "block" "I" ∈ gt) (hd : decode cc pc = .ok (.getfield i, 3)) (kk : V p l e R s m args below meth c (Gz z) nL cells slots Q (mw z b S) (pc + 3) lv (.int (nI x) :: sk)) : V p l e R s m args below meth c (Gz z) nL cells slots Q (mw z b S) pc lv (.ref (b 0) :: sk) := by
  subst hx
  exact V.get X in_Mo 0 rfl rfl 27 (by decide) hw rfl hd kk
theorem p_Mo_block (X : Cx p s m args meth c (Gz z) cc nL ret own) {i : Nat} {x : Nat} (hw : Cond.fieldLink own i "PascalMachineModel" "block" "I" ∈ gt) (hd : decode cc pc = .ok (.putfield i, 3)) (kk : V p l e R s m args below meth c (Gz z) nL cells slots Q (mw z b (w_block S x)) (pc + 3) lv (sk)) : V p l e R s m args below meth c (Gz z) nL cells slots Q (mw z b S) pc lv (.int (nI x) :: .ref (b 0) :: sk) := V.put (ty := .int) X in_Mo t_Mo t_Mo_ok n_Mo 0 rfl rfl 27 (by decide) hw rfl (by decide +kernel) (vp_nar_int _) rfl (Nat.le_of_ble_eq_true rfl) rfl hd kk
theorem g_Mo_pSort (X : Cx p s m args meth c (Gz z) cc nL ret own) {i : Nat} (hw : Cond.fieldLink own i "PascalMachineModel" "pSort" "[I" ∈ gt) (hd : decode cc pc = .ok (.getfield i, 3)) (kk : V p l e R s m args below meth c (Gz z) nL cells slots Q (mw z b S) (pc + 3) lv (.ref (b 19) :: sk)) : V p l e R s m args below meth c (Gz z) nL cells slots Q (mw z b S) pc lv (.ref (b 0) :: sk) := V.get X in_Mo 0 rfl rfl 28 (by decide) hw rfl hd kk
theorem g_Mo_pHome (X : Cx p s m args meth c (Gz z) cc nL ret own) {i : Nat} (hw : Cond.fieldLink own i "PascalMachineModel" "pHome" "[I" ∈ gt) (hd : decode cc pc = .ok (.getfield i, 3)) (kk : V p l e R s m args below meth c (Gz z) nL cells slots Q (mw z b S) (pc + 3) lv (.ref (b 20) :: sk)) : V p l e R s m args below meth c (Gz z) nL cells slots Q (mw z b S) pc lv (.ref (b 0) :: sk) := V.get X in_Mo 0 rfl rfl 29 (by decide) hw rfl hd kk
theorem g_Mo_pOwn (X : Cx p s m args meth c (Gz z) cc nL ret own) {i : Nat} (hw : Cond.fieldLink own i "PascalMachineModel" "pOwn" "[I" ∈ gt) (hd : decode cc pc = .ok (.getfield i, 3)) (kk : V p l e R s m args below meth c (Gz z) nL cells slots Q (mw z b S) (pc + 3) lv (.ref (b 21) :: sk)) : V p l e R s m args below meth c (Gz z) nL cells slots Q (mw z b S) pc lv (.ref (b 0) :: sk) := V.get X in_Mo 0 rfl rfl 30 (by decide) hw rfl hd kk
theorem g_Mo_pWants (X : Cx p s m args meth c (Gz z) cc nL ret own) {i : Nat} (hw : Cond.fieldLink own i "PascalMachineModel" "pWants" "[I" ∈ gt) (hd : decode cc pc = .ok (.getfield i, 3)) (kk : V p l e R s m args below meth c (Gz z) nL cells slots Q (mw z b S) (pc + 3) lv (.ref (b 22) :: sk)) : V p l e R s m args below meth c (Gz z) nL cells slots Q (mw z b S) pc lv (.ref (b 0) :: sk) := V.get X in_Mo 0 rfl rfl 31 (by decide) hw rfl hd kk
theorem g_Mo_pBody (X : Cx p s m args meth c (Gz z) cc nL ret own) {i : Nat} (hw : Cond.fieldLink own i "PascalMachineModel" "pBody" "[I" ∈ gt) (hd : decode cc pc = .ok (.getfield i, 3)) (kk : V p l e R s m args below meth c (Gz z) nL cells slots Q (mw z b S) (pc + 3) lv (.ref (b 23) :: sk)) : V p l e R s m args below meth c (Gz z) nL cells slots Q (mw z b S) pc lv (.ref (b 0) :: sk) := V.get X in_Mo 0 rfl rfl 32 (by decide) hw rfl hd kk
theorem g_Mo_at (X : Cx p s m args meth c (Gz z) cc nL ret own) {i : Nat} {x : Nat} (hx : r_at S = x) (hw : Cond.fieldLink own i "PascalMachineModel" "at" "I" ∈ gt) (hd : decode cc pc = .ok (.getfield i, 3)) (kk : V p l e R s m args below meth c (Gz z) nL cells slots Q (mw z b S) (pc + 3) lv (.int (nI x) :: sk)) : V p l e R s m args below meth c (Gz z) nL cells slots Q (mw z b S) pc lv (.ref (b 0) :: sk) := by
  subst hx
  exact V.get X in_Mo 0 rfl rfl 33 (by decide) hw rfl hd kk
theorem p_Mo_at (X : Cx p s m args meth c (Gz z) cc nL ret own) {i : Nat} {x : Nat} (hw : Cond.fieldLink own i "PascalMachineModel" "at" "I" ∈ gt) (hd : decode cc pc = .ok (.putfield i, 3)) (kk : V p l e R s m args below meth c (Gz z) nL cells slots Q (mw z b (w_at S x)) (pc + 3) lv (sk)) : V p l e R s m args below meth c (Gz z) nL cells slots Q (mw z b S) pc lv (.int (nI x) :: .ref (b 0) :: sk) := V.put (ty := .int) X in_Mo t_Mo t_Mo_ok n_Mo 0 rfl rfl 33 (by decide) hw rfl (by decide +kernel) (vp_nar_int _) rfl (Nat.le_of_ble_eq_true rfl) rfl hd kk
theorem g_Mo_wrong (X : Cx p s m args meth c (Gz z) cc nL ret own) {i : Nat} {x : Option Nat} (hx : r_wrong S = x) (hw : Cond.fieldLink own i "PascalMachineModel" "wrong" "I" ∈ gt) (hd : decode cc pc = .ok (.getfield i, 3)) (kk : V p l e R s m args below meth c (Gz z) nL cells slots Q (mw z b S) (pc + 3) lv (.int (fI x) :: sk)) : V p l e R s m args below meth c (Gz z) nL cells slots Q (mw z b S) pc lv (.ref (b 0) :: sk) := by
  subst hx
  exact V.get X in_Mo 0 rfl rfl 34 (by decide) hw rfl hd kk
theorem p_Mo_wrong (X : Cx p s m args meth c (Gz z) cc nL ret own) {i : Nat} {x : Option Nat} (hw : Cond.fieldLink own i "PascalMachineModel" "wrong" "I" ∈ gt) (hd : decode cc pc = .ok (.putfield i, 3)) (kk : V p l e R s m args below meth c (Gz z) nL cells slots Q (mw z b (w_wrong S x)) (pc + 3) lv (sk)) : V p l e R s m args below meth c (Gz z) nL cells slots Q (mw z b S) pc lv (.int (fI x) :: .ref (b 0) :: sk) := V.put (ty := .int) X in_Mo t_Mo t_Mo_ok n_Mo 0 rfl rfl 34 (by decide) hw rfl (by decide +kernel) (vp_nar_int _) rfl (Nat.le_of_ble_eq_true rfl) rfl hd kk
theorem g_Mo_within (X : Cx p s m args meth c (Gz z) cc nL ret own) {i : Nat} (hw : Cond.fieldLink own i "PascalMachineModel" "within" "[I" ∈ gt) (hd : decode cc pc = .ok (.getfield i, 3)) (kk : V p l e R s m args below meth c (Gz z) nL cells slots Q (mw z b S) (pc + 3) lv (.ref (b 24) :: sk)) : V p l e R s m args below meth c (Gz z) nL cells slots Q (mw z b S) pc lv (.ref (b 0) :: sk) := V.get X in_Mo 0 rfl rfl 35 (by decide) hw rfl hd kk
theorem g_Mo_since (X : Cx p s m args meth c (Gz z) cc nL ret own) {i : Nat} (hw : Cond.fieldLink own i "PascalMachineModel" "since" "[I" ∈ gt) (hd : decode cc pc = .ok (.getfield i, 3)) (kk : V p l e R s m args below meth c (Gz z) nL cells slots Q (mw z b S) (pc + 3) lv (.ref (b 25) :: sk)) : V p l e R s m args below meth c (Gz z) nL cells slots Q (mw z b S) pc lv (.ref (b 0) :: sk) := V.get X in_Mo 0 rfl rfl 36 (by decide) hw rfl hd kk
theorem g_Mo_deep (X : Cx p s m args meth c (Gz z) cc nL ret own) {i : Nat} {x : Nat} (hx : r_deep S = x) (hw : Cond.fieldLink own i "PascalMachineModel" "deep" "I" ∈ gt) (hd : decode cc pc = .ok (.getfield i, 3)) (kk : V p l e R s m args below meth c (Gz z) nL cells slots Q (mw z b S) (pc + 3) lv (.int (nI x) :: sk)) : V p l e R s m args below meth c (Gz z) nL cells slots Q (mw z b S) pc lv (.ref (b 0) :: sk) := by
  subst hx
  exact V.get X in_Mo 0 rfl rfl 37 (by decide) hw rfl hd kk
theorem p_Mo_deep (X : Cx p s m args meth c (Gz z) cc nL ret own) {i : Nat} {x : Nat} (hw : Cond.fieldLink own i "PascalMachineModel" "deep" "I" ∈ gt) (hd : decode cc pc = .ok (.putfield i, 3)) (kk : V p l e R s m args below meth c (Gz z) nL cells slots Q (mw z b (w_deep S x)) (pc + 3) lv (sk)) : V p l e R s m args below meth c (Gz z) nL cells slots Q (mw z b S) pc lv (.int (nI x) :: .ref (b 0) :: sk) := V.put (ty := .int) X in_Mo t_Mo t_Mo_ok n_Mo 0 rfl rfl 37 (by decide) hw rfl (by decide +kernel) (vp_nar_int _) rfl (Nat.le_of_ble_eq_true rfl) rfl hd kk
theorem g_Mo_cell (X : Cx p s m args meth c (Gz z) cc nL ret own) {i : Nat} (hw : Cond.fieldLink own i "PascalMachineModel" "cell" "[I" ∈ gt) (hd : decode cc pc = .ok (.getfield i, 3)) (kk : V p l e R s m args below meth c (Gz z) nL cells slots Q (mw z b S) (pc + 3) lv (.ref (b 26) :: sk)) : V p l e R s m args below meth c (Gz z) nL cells slots Q (mw z b S) pc lv (.ref (b 0) :: sk) := V.get X in_Mo 0 rfl rfl 38 (by decide) hw rfl hd kk
theorem g_Mo_stands (X : Cx p s m args meth c (Gz z) cc nL ret own) {i : Nat} (hw : Cond.fieldLink own i "PascalMachineModel" "stands" "[I" ∈ gt) (hd : decode cc pc = .ok (.getfield i, 3)) (kk : V p l e R s m args below meth c (Gz z) nL cells slots Q (mw z b S) (pc + 3) lv (.ref (b 27) :: sk)) : V p l e R s m args below meth c (Gz z) nL cells slots Q (mw z b S) pc lv (.ref (b 0) :: sk) := V.get X in_Mo 0 rfl rfl 39 (by decide) hw rfl hd kk
theorem g_Mo_blockOf (X : Cx p s m args meth c (Gz z) cc nL ret own) {i : Nat} (hw : Cond.fieldLink own i "PascalMachineModel" "blockOf" "[I" ∈ gt) (hd : decode cc pc = .ok (.getfield i, 3)) (kk : V p l e R s m args below meth c (Gz z) nL cells slots Q (mw z b S) (pc + 3) lv (.ref (b 28) :: sk)) : V p l e R s m args below meth c (Gz z) nL cells slots Q (mw z b S) pc lv (.ref (b 0) :: sk) := V.get X in_Mo 0 rfl rfl 40 (by decide) hw rfl hd kk
theorem g_Mo_outer (X : Cx p s m args meth c (Gz z) cc nL ret own) {i : Nat} (hw : Cond.fieldLink own i "PascalMachineModel" "outer" "[I" ∈ gt) (hd : decode cc pc = .ok (.getfield i, 3)) (kk : V p l e R s m args below meth c (Gz z) nL cells slots Q (mw z b S) (pc + 3) lv (.ref (b 29) :: sk)) : V p l e R s m args below meth c (Gz z) nL cells slots Q (mw z b S) pc lv (.ref (b 0) :: sk) := V.get X in_Mo 0 rfl rfl 41 (by decide) hw rfl hd kk
theorem g_Mo_back (X : Cx p s m args meth c (Gz z) cc nL ret own) {i : Nat} (hw : Cond.fieldLink own i "PascalMachineModel" "back" "[I" ∈ gt) (hd : decode cc pc = .ok (.getfield i, 3)) (kk : V p l e R s m args below meth c (Gz z) nL cells slots Q (mw z b S) (pc + 3) lv (.ref (b 30) :: sk)) : V p l e R s m args below meth c (Gz z) nL cells slots Q (mw z b S) pc lv (.ref (b 0) :: sk) := V.get X in_Mo 0 rfl rfl 42 (by decide) hw rfl hd kk
theorem g_Mo_level (X : Cx p s m args meth c (Gz z) cc nL ret own) {i : Nat} (hw : Cond.fieldLink own i "PascalMachineModel" "level" "[I" ∈ gt) (hd : decode cc pc = .ok (.getfield i, 3)) (kk : V p l e R s m args below meth c (Gz z) nL cells slots Q (mw z b S) (pc + 3) lv (.ref (b 31) :: sk)) : V p l e R s m args below meth c (Gz z) nL cells slots Q (mw z b S) pc lv (.ref (b 0) :: sk) := V.get X in_Mo 0 rfl rfl 43 (by decide) hw rfl hd kk
theorem g_Mo_doing (X : Cx p s m args meth c (Gz z) cc nL ret own) {i : Nat} (hw : Cond.fieldLink own i "PascalMachineModel" "doing" "[I" ∈ gt) (hd : decode cc pc = .ok (.getfield i, 3)) (kk : V p l e R s m args below meth c (Gz z) nL cells slots Q (mw z b S) (pc + 3) lv (.ref (b 32) :: sk)) : V p l e R s m args below meth c (Gz z) nL cells slots Q (mw z b S) pc lv (.ref (b 0) :: sk) := V.get X in_Mo 0 rfl rfl 44 (by decide) hw rfl hd kk
theorem g_Mo_doneAt (X : Cx p s m args meth c (Gz z) cc nL ret own) {i : Nat} (hw : Cond.fieldLink own i "PascalMachineModel" "doneAt" "[I" ∈ gt) (hd : decode cc pc = .ok (.getfield i, 3)) (kk : V p l e R s m args below meth c (Gz z) nL cells slots Q (mw z b S) (pc + 3) lv (.ref (b 33) :: sk)) : V p l e R s m args below meth c (Gz z) nL cells slots Q (mw z b S) pc lv (.ref (b 0) :: sk) := V.get X in_Mo 0 rfl rfl 45 (by decide) hw rfl hd kk
theorem g_Mo_frame (X : Cx p s m args meth c (Gz z) cc nL ret own) {i : Nat} {x : Option Nat} (hx : r_frame S = x) (hw : Cond.fieldLink own i "PascalMachineModel" "frame" "I" ∈ gt) (hd : decode cc pc = .ok (.getfield i, 3)) (kk : V p l e R s m args below meth c (Gz z) nL cells slots Q (mw z b S) (pc + 3) lv (.int (fI x) :: sk)) : V p l e R s m args below meth c (Gz z) nL cells slots Q (mw z b S) pc lv (.ref (b 0) :: sk) := by
  subst hx
  exact V.get X in_Mo 0 rfl rfl 46 (by decide) hw rfl hd kk
theorem p_Mo_frame (X : Cx p s m args meth c (Gz z) cc nL ret own) {i : Nat} {x : Option Nat} (hw : Cond.fieldLink own i "PascalMachineModel" "frame" "I" ∈ gt) (hd : decode cc pc = .ok (.putfield i, 3)) (kk : V p l e R s m args below meth c (Gz z) nL cells slots Q (mw z b (w_frame S x)) (pc + 3) lv (sk)) : V p l e R s m args below meth c (Gz z) nL cells slots Q (mw z b S) pc lv (.int (fI x) :: .ref (b 0) :: sk) := V.put (ty := .int) X in_Mo t_Mo t_Mo_ok n_Mo 0 rfl rfl 46 (by decide) hw rfl (by decide +kernel) (vp_nar_int _) rfl (Nat.le_of_ble_eq_true rfl) rfl hd kk
theorem g_Mo_pc (X : Cx p s m args meth c (Gz z) cc nL ret own) {i : Nat} {x : Nat} (hx : r_pc S = x) (hw : Cond.fieldLink own i "PascalMachineModel" "pc" "I" ∈ gt) (hd : decode cc pc = .ok (.getfield i, 3)) (kk : V p l e R s m args below meth c (Gz z) nL cells slots Q (mw z b S) (pc + 3) lv (.int (nI x) :: sk)) : V p l e R s m args below meth c (Gz z) nL cells slots Q (mw z b S) pc lv (.ref (b 0) :: sk) := by
  subst hx
  exact V.get X in_Mo 0 rfl rfl 47 (by decide) hw rfl hd kk
theorem p_Mo_pc (X : Cx p s m args meth c (Gz z) cc nL ret own) {i : Nat} {x : Nat} (hw : Cond.fieldLink own i "PascalMachineModel" "pc" "I" ∈ gt) (hd : decode cc pc = .ok (.putfield i, 3)) (kk : V p l e R s m args below meth c (Gz z) nL cells slots Q (mw z b (w_pc S x)) (pc + 3) lv (sk)) : V p l e R s m args below meth c (Gz z) nL cells slots Q (mw z b S) pc lv (.int (nI x) :: .ref (b 0) :: sk) := V.put (ty := .int) X in_Mo t_Mo t_Mo_ok n_Mo 0 rfl rfl 47 (by decide) hw rfl (by decide +kernel) (vp_nar_int _) rfl (Nat.le_of_ble_eq_true rfl) rfl hd kk
theorem g_Mo_failure (X : Cx p s m args meth c (Gz z) cc nL ret own) {i : Nat} {x : Nat} (hx : r_failure S = x) (hw : Cond.fieldLink own i "PascalMachineModel" "failure" "I" ∈ gt) (hd : decode cc pc = .ok (.getfield i, 3)) (kk : V p l e R s m args below meth c (Gz z) nL cells slots Q (mw z b S) (pc + 3) lv (.int (nI x) :: sk)) : V p l e R s m args below meth c (Gz z) nL cells slots Q (mw z b S) pc lv (.ref (b 0) :: sk) := by
  subst hx
  exact V.get X in_Mo 0 rfl rfl 48 (by decide) hw rfl hd kk
theorem p_Mo_failure (X : Cx p s m args meth c (Gz z) cc nL ret own) {i : Nat} {x : Nat} (hw : Cond.fieldLink own i "PascalMachineModel" "failure" "I" ∈ gt) (hd : decode cc pc = .ok (.putfield i, 3)) (kk : V p l e R s m args below meth c (Gz z) nL cells slots Q (mw z b (w_failure S x)) (pc + 3) lv (sk)) : V p l e R s m args below meth c (Gz z) nL cells slots Q (mw z b S) pc lv (.int (nI x) :: .ref (b 0) :: sk) := V.put (ty := .int) X in_Mo t_Mo t_Mo_ok n_Mo 0 rfl rfl 48 (by decide) hw rfl (by decide +kernel) (vp_nar_int _) rfl (Nat.le_of_ble_eq_true rfl) rfl hd kk
theorem g_Mo_steps (X : Cx p s m args meth c (Gz z) cc nL ret own) {i : Nat} {x : Nat} (hx : r_steps S = x) (hw : Cond.fieldLink own i "PascalMachineModel" "steps" "I" ∈ gt) (hd : decode cc pc = .ok (.getfield i, 3)) (kk : V p l e R s m args below meth c (Gz z) nL cells slots Q (mw z b S) (pc + 3) lv (.int (nI x) :: sk)) : V p l e R s m args below meth c (Gz z) nL cells slots Q (mw z b S) pc lv (.ref (b 0) :: sk) := by
  subst hx
  exact V.get X in_Mo 0 rfl rfl 49 (by decide) hw rfl hd kk
theorem p_Mo_steps (X : Cx p s m args meth c (Gz z) cc nL ret own) {i : Nat} {x : Nat} (hw : Cond.fieldLink own i "PascalMachineModel" "steps" "I" ∈ gt) (hd : decode cc pc = .ok (.putfield i, 3)) (kk : V p l e R s m args below meth c (Gz z) nL cells slots Q (mw z b (w_steps S x)) (pc + 3) lv (sk)) : V p l e R s m args below meth c (Gz z) nL cells slots Q (mw z b S) pc lv (.int (nI x) :: .ref (b 0) :: sk) := V.put (ty := .int) X in_Mo t_Mo t_Mo_ok n_Mo 0 rfl rfl 49 (by decide) hw rfl (by decide +kernel) (vp_nar_int _) rfl (Nat.le_of_ble_eq_true rfl) rfl hd kk
theorem g_Mo_greatest (X : Cx p s m args meth c (Gz z) cc nL ret own) {i : Nat} {x : Nat} (hx : r_greatest S = x) (hw : Cond.fieldLink own i "PascalMachineModel" "greatest" "I" ∈ gt) (hd : decode cc pc = .ok (.getfield i, 3)) (kk : V p l e R s m args below meth c (Gz z) nL cells slots Q (mw z b S) (pc + 3) lv (.int (nI x) :: sk)) : V p l e R s m args below meth c (Gz z) nL cells slots Q (mw z b S) pc lv (.ref (b 0) :: sk) := by
  subst hx
  exact V.get X in_Mo 0 rfl rfl 50 (by decide) hw rfl hd kk
theorem p_Mo_greatest (X : Cx p s m args meth c (Gz z) cc nL ret own) {i : Nat} {x : Nat} (hw : Cond.fieldLink own i "PascalMachineModel" "greatest" "I" ∈ gt) (hd : decode cc pc = .ok (.putfield i, 3)) (kk : V p l e R s m args below meth c (Gz z) nL cells slots Q (mw z b (w_greatest S x)) (pc + 3) lv (sk)) : V p l e R s m args below meth c (Gz z) nL cells slots Q (mw z b S) pc lv (.int (nI x) :: .ref (b 0) :: sk) := V.put (ty := .int) X in_Mo t_Mo t_Mo_ok n_Mo 0 rfl rfl 50 (by decide) hw rfl (by decide +kernel) (vp_nar_int _) rfl (Nat.le_of_ble_eq_true rfl) rfl hd kk
theorem g_Mo_lost (X : Cx p s m args meth c (Gz z) cc nL ret own) {i : Nat} {x : Nat} (hx : r_lost S = x) (hw : Cond.fieldLink own i "PascalMachineModel" "lost" "I" ∈ gt) (hd : decode cc pc = .ok (.getfield i, 3)) (kk : V p l e R s m args below meth c (Gz z) nL cells slots Q (mw z b S) (pc + 3) lv (.int (nI x) :: sk)) : V p l e R s m args below meth c (Gz z) nL cells slots Q (mw z b S) pc lv (.ref (b 0) :: sk) := by
  subst hx
  exact V.get X in_Mo 0 rfl rfl 51 (by decide) hw rfl hd kk
theorem p_Mo_lost (X : Cx p s m args meth c (Gz z) cc nL ret own) {i : Nat} {x : Nat} (hw : Cond.fieldLink own i "PascalMachineModel" "lost" "I" ∈ gt) (hd : decode cc pc = .ok (.putfield i, 3)) (kk : V p l e R s m args below meth c (Gz z) nL cells slots Q (mw z b (w_lost S x)) (pc + 3) lv (sk)) : V p l e R s m args below meth c (Gz z) nL cells slots Q (mw z b S) pc lv (.int (nI x) :: .ref (b 0) :: sk) := V.put (ty := .int) X in_Mo t_Mo t_Mo_ok n_Mo 0 rfl rfl 51 (by decide) hw rfl (by decide +kernel) (vp_nar_int _) rfl (Nat.le_of_ble_eq_true rfl) rfl hd kk
theorem g_Mo_output (X : Cx p s m args meth c (Gz z) cc nL ret own) {i : Nat} (hw : Cond.fieldLink own i "PascalMachineModel" "output" "[I" ∈ gt) (hd : decode cc pc = .ok (.getfield i, 3)) (kk : V p l e R s m args below meth c (Gz z) nL cells slots Q (mw z b S) (pc + 3) lv (.ref (b 34) :: sk)) : V p l e R s m args below meth c (Gz z) nL cells slots Q (mw z b S) pc lv (.ref (b 0) :: sk) := V.get X in_Mo 0 rfl rfl 52 (by decide) hw rfl hd kk
theorem g_Mo_written (X : Cx p s m args meth c (Gz z) cc nL ret own) {i : Nat} {x : Nat} (hx : r_written S = x) (hw : Cond.fieldLink own i "PascalMachineModel" "written" "I" ∈ gt) (hd : decode cc pc = .ok (.getfield i, 3)) (kk : V p l e R s m args below meth c (Gz z) nL cells slots Q (mw z b S) (pc + 3) lv (.int (nI x) :: sk)) : V p l e R s m args below meth c (Gz z) nL cells slots Q (mw z b S) pc lv (.ref (b 0) :: sk) := by
  subst hx
  exact V.get X in_Mo 0 rfl rfl 53 (by decide) hw rfl hd kk
theorem p_Mo_written (X : Cx p s m args meth c (Gz z) cc nL ret own) {i : Nat} {x : Nat} (hw : Cond.fieldLink own i "PascalMachineModel" "written" "I" ∈ gt) (hd : decode cc pc = .ok (.putfield i, 3)) (kk : V p l e R s m args below meth c (Gz z) nL cells slots Q (mw z b (w_written S x)) (pc + 3) lv (sk)) : V p l e R s m args below meth c (Gz z) nL cells slots Q (mw z b S) pc lv (.int (nI x) :: .ref (b 0) :: sk) := V.put (ty := .int) X in_Mo t_Mo t_Mo_ok n_Mo 0 rfl rfl 53 (by decide) hw rfl (by decide +kernel) (vp_nar_int _) rfl (Nat.le_of_ble_eq_true rfl) rfl hd kk
theorem g_Mo_sum (X : Cx p s m args meth c (Gz z) cc nL ret own) {i : Nat} (hw : Cond.fieldLink own i "PascalMachineModel" "sum" "[I" ∈ gt) (hd : decode cc pc = .ok (.getfield i, 3)) (kk : V p l e R s m args below meth c (Gz z) nL cells slots Q (mw z b S) (pc + 3) lv (.ref (b 35) :: sk)) : V p l e R s m args below meth c (Gz z) nL cells slots Q (mw z b S) pc lv (.ref (b 0) :: sk) := V.get X in_Mo 0 rfl rfl 54 (by decide) hw rfl hd kk
theorem g_Mo_term (X : Cx p s m args meth c (Gz z) cc nL ret own) {i : Nat} (hw : Cond.fieldLink own i "PascalMachineModel" "term" "[I" ∈ gt) (hd : decode cc pc = .ok (.getfield i, 3)) (kk : V p l e R s m args below meth c (Gz z) nL cells slots Q (mw z b S) (pc + 3) lv (.ref (b 36) :: sk)) : V p l e R s m args below meth c (Gz z) nL cells slots Q (mw z b S) pc lv (.ref (b 0) :: sk) := V.get X in_Mo 0 rfl rfl 55 (by decide) hw rfl hd kk
theorem g_Mo_sumSign (X : Cx p s m args meth c (Gz z) cc nL ret own) {i : Nat} (hw : Cond.fieldLink own i "PascalMachineModel" "sumSign" "[I" ∈ gt) (hd : decode cc pc = .ok (.getfield i, 3)) (kk : V p l e R s m args below meth c (Gz z) nL cells slots Q (mw z b S) (pc + 3) lv (.ref (b 37) :: sk)) : V p l e R s m args below meth c (Gz z) nL cells slots Q (mw z b S) pc lv (.ref (b 0) :: sk) := V.get X in_Mo 0 rfl rfl 56 (by decide) hw rfl hd kk
theorem g_Mo_termSign (X : Cx p s m args meth c (Gz z) cc nL ret own) {i : Nat} (hw : Cond.fieldLink own i "PascalMachineModel" "termSign" "[I" ∈ gt) (hd : decode cc pc = .ok (.getfield i, 3)) (kk : V p l e R s m args below meth c (Gz z) nL cells slots Q (mw z b S) (pc + 3) lv (.ref (b 38) :: sk)) : V p l e R s m args below meth c (Gz z) nL cells slots Q (mw z b S) pc lv (.ref (b 0) :: sk) := V.get X in_Mo 0 rfl rfl 57 (by decide) hw rfl hd kk
theorem g_Mo_given (X : Cx p s m args meth c (Gz z) cc nL ret own) {i : Nat} (hw : Cond.fieldLink own i "PascalMachineModel" "given" "[I" ∈ gt) (hd : decode cc pc = .ok (.getfield i, 3)) (kk : V p l e R s m args below meth c (Gz z) nL cells slots Q (mw z b S) (pc + 3) lv (.ref (b 39) :: sk)) : V p l e R s m args below meth c (Gz z) nL cells slots Q (mw z b S) pc lv (.ref (b 0) :: sk) := V.get X in_Mo 0 rfl rfl 58 (by decide) hw rfl hd kk
theorem l_Mo_text (X : Cx p s m args meth c (Gz z) cc nL ret own) {k : Nat} {x : Nat} (hk : k < 300) (hx : r_text S k = x) (hd : decode cc pc = .ok (.iaload, 1)) (kk : V p l e R s m args below meth c (Gz z) nL cells slots Q (mw z b S) (pc + 1) lv (.int (nI x) :: sk)) : V p l e R s m args below meth c (Gz z) nL cells slots Q (mw z b S) pc lv (.int (nI k) :: .ref (b 1) :: sk) := by
  subst hx
  exact V.iald X 1 0 rfl rfl hk (by decide) hd kk
theorem s_Mo_text (X : Cx p s m args meth c (Gz z) cc nL ret own) {k : Nat} {x : Nat} {g : Nat → Nat} (hk : k < 300) (hg : r_text S = g) (hd : decode cc pc = .ok (.iastore, 1)) (kk : V p l e R s m args below meth c (Gz z) nL cells slots Q (mw z b (w_text S (va_up g k x))) (pc + 1) lv (sk)) : V p l e R s m args below meth c (Gz z) nL cells slots Q (mw z b S) pc lv (.int (nI x) :: .int (nI k) :: .ref (b 1) :: sk) := by
  subst hg
  exact V.iastN X 1 0 rfl rfl hk (by decide) rfl hd kk
theorem l_Mo_kind (X : Cx p s m args meth c (Gz z) cc nL ret own) {k : Nat} {x : Nat} (hk : k < 155) (hx : r_kind S k = x) (hd : decode cc pc = .ok (.iaload, 1)) (kk : V p l e R s m args below meth c (Gz z) nL cells slots Q (mw z b S) (pc + 1) lv (.int (nI x) :: sk)) : V p l e R s m args below meth c (Gz z) nL cells slots Q (mw z b S) pc lv (.int (nI k) :: .ref (b 2) :: sk) := by
  subst hx
  exact V.iald X 2 0 rfl rfl hk (by decide) hd kk
theorem s_Mo_kind (X : Cx p s m args meth c (Gz z) cc nL ret own) {k : Nat} {x : Nat} {g : Nat → Nat} (hk : k < 155) (hg : r_kind S = g) (hd : decode cc pc = .ok (.iastore, 1)) (kk : V p l e R s m args below meth c (Gz z) nL cells slots Q (mw z b (w_kind S (va_up g k x))) (pc + 1) lv (sk)) : V p l e R s m args below meth c (Gz z) nL cells slots Q (mw z b S) pc lv (.int (nI x) :: .int (nI k) :: .ref (b 2) :: sk) := by
  subst hg
  exact V.iastN X 2 0 rfl rfl hk (by decide) rfl hd kk
theorem l_Mo_word (X : Cx p s m args meth c (Gz z) cc nL ret own) {k : Nat} {x : Int64} (hk : k < 155) (hx : r_word S k = x) (hd : decode cc pc = .ok (.laload, 1)) (kk : V p l e R s m args below meth c (Gz z) nL cells slots Q (mw z b S) (pc + 1) lv (.long x :: sk)) : V p l e R s m args below meth c (Gz z) nL cells slots Q (mw z b S) pc lv (.int (nI k) :: .ref (b 3) :: sk) := by
  subst hx
  exact V.lald X 3 1 rfl rfl hk (by decide) hd kk
theorem s_Mo_word (X : Cx p s m args meth c (Gz z) cc nL ret own) {k : Nat} {x : Int64} {g : Nat → Int64} (hk : k < 155) (hg : r_word S = g) (hd : decode cc pc = .ok (.lastore, 1)) (kk : V p l e R s m args below meth c (Gz z) nL cells slots Q (mw z b (w_word S (va_up g k x))) (pc + 1) lv (sk)) : V p l e R s m args below meth c (Gz z) nL cells slots Q (mw z b S) pc lv (.long x :: .int (nI k) :: .ref (b 3) :: sk) := by
  subst hg
  exact V.last X 3 1 rfl rfl hk (by decide) rfl hd kk
theorem l_Mo_from (X : Cx p s m args meth c (Gz z) cc nL ret own) {k : Nat} {x : Nat} (hk : k < 155) (hx : r_from S k = x) (hd : decode cc pc = .ok (.iaload, 1)) (kk : V p l e R s m args below meth c (Gz z) nL cells slots Q (mw z b S) (pc + 1) lv (.int (nI x) :: sk)) : V p l e R s m args below meth c (Gz z) nL cells slots Q (mw z b S) pc lv (.int (nI k) :: .ref (b 4) :: sk) := by
  subst hx
  exact V.iald X 4 0 rfl rfl hk (by decide) hd kk
theorem s_Mo_from (X : Cx p s m args meth c (Gz z) cc nL ret own) {k : Nat} {x : Nat} {g : Nat → Nat} (hk : k < 155) (hg : r_from S = g) (hd : decode cc pc = .ok (.iastore, 1)) (kk : V p l e R s m args below meth c (Gz z) nL cells slots Q (mw z b (w_from S (va_up g k x))) (pc + 1) lv (sk)) : V p l e R s m args below meth c (Gz z) nL cells slots Q (mw z b S) pc lv (.int (nI x) :: .int (nI k) :: .ref (b 4) :: sk) := by
  subst hg
  exact V.iastN X 4 0 rfl rfl hk (by decide) rfl hd kk
theorem l_Mo_to (X : Cx p s m args meth c (Gz z) cc nL ret own) {k : Nat} {x : Nat} (hk : k < 155) (hx : r_to S k = x) (hd : decode cc pc = .ok (.iaload, 1)) (kk : V p l e R s m args below meth c (Gz z) nL cells slots Q (mw z b S) (pc + 1) lv (.int (nI x) :: sk)) : V p l e R s m args below meth c (Gz z) nL cells slots Q (mw z b S) pc lv (.int (nI k) :: .ref (b 5) :: sk) := by
  subst hx
  exact V.iald X 5 0 rfl rfl hk (by decide) hd kk
theorem s_Mo_to (X : Cx p s m args meth c (Gz z) cc nL ret own) {k : Nat} {x : Nat} {g : Nat → Nat} (hk : k < 155) (hg : r_to S = g) (hd : decode cc pc = .ok (.iastore, 1)) (kk : V p l e R s m args below meth c (Gz z) nL cells slots Q (mw z b (w_to S (va_up g k x))) (pc + 1) lv (sk)) : V p l e R s m args below meth c (Gz z) nL cells slots Q (mw z b S) pc lv (.int (nI x) :: .int (nI k) :: .ref (b 5) :: sk) := by
  subst hg
  exact V.iastN X 5 0 rfl rfl hk (by decide) rfl hd kk
theorem l_Mo_means (X : Cx p s m args meth c (Gz z) cc nL ret own) {k : Nat} {x : Nat} (hk : k < 155) (hx : r_means S k = x) (hd : decode cc pc = .ok (.iaload, 1)) (kk : V p l e R s m args below meth c (Gz z) nL cells slots Q (mw z b S) (pc + 1) lv (.int (nI x) :: sk)) : V p l e R s m args below meth c (Gz z) nL cells slots Q (mw z b S) pc lv (.int (nI k) :: .ref (b 6) :: sk) := by
  subst hx
  exact V.iald X 6 0 rfl rfl hk (by decide) hd kk
theorem s_Mo_means (X : Cx p s m args meth c (Gz z) cc nL ret own) {k : Nat} {x : Nat} {g : Nat → Nat} (hk : k < 155) (hg : r_means S = g) (hd : decode cc pc = .ok (.iastore, 1)) (kk : V p l e R s m args below meth c (Gz z) nL cells slots Q (mw z b (w_means S (va_up g k x))) (pc + 1) lv (sk)) : V p l e R s m args below meth c (Gz z) nL cells slots Q (mw z b S) pc lv (.int (nI x) :: .int (nI k) :: .ref (b 6) :: sk) := by
  subst hg
  exact V.iastN X 6 0 rfl rfl hk (by decide) rfl hd kk
theorem l_Mo_next (X : Cx p s m args meth c (Gz z) cc nL ret own) {k : Nat} {x : Nat} (hk : k < 155) (hx : r_next S k = x) (hd : decode cc pc = .ok (.iaload, 1)) (kk : V p l e R s m args below meth c (Gz z) nL cells slots Q (mw z b S) (pc + 1) lv (.int (nI x) :: sk)) : V p l e R s m args below meth c (Gz z) nL cells slots Q (mw z b S) pc lv (.int (nI k) :: .ref (b 7) :: sk) := by
  subst hx
  exact V.iald X 7 0 rfl rfl hk (by decide) hd kk
theorem s_Mo_next (X : Cx p s m args meth c (Gz z) cc nL ret own) {k : Nat} {x : Nat} {g : Nat → Nat} (hk : k < 155) (hg : r_next S = g) (hd : decode cc pc = .ok (.iastore, 1)) (kk : V p l e R s m args below meth c (Gz z) nL cells slots Q (mw z b (w_next S (va_up g k x))) (pc + 1) lv (sk)) : V p l e R s m args below meth c (Gz z) nL cells slots Q (mw z b S) pc lv (.int (nI x) :: .int (nI k) :: .ref (b 7) :: sk) := by
  subst hg
  exact V.iastN X 7 0 rfl rfl hk (by decide) rfl hd kk
theorem l_Mo_pKind (X : Cx p s m args meth c (Gz z) cc nL ret own) {k : Nat} {x : Nat} (hk : k < 155) (hx : r_pKind S k = x) (hd : decode cc pc = .ok (.iaload, 1)) (kk : V p l e R s m args below meth c (Gz z) nL cells slots Q (mw z b S) (pc + 1) lv (.int (nI x) :: sk)) : V p l e R s m args below meth c (Gz z) nL cells slots Q (mw z b S) pc lv (.int (nI k) :: .ref (b 8) :: sk) := by
  subst hx
  exact V.iald X 8 0 rfl rfl hk (by decide) hd kk
theorem s_Mo_pKind (X : Cx p s m args meth c (Gz z) cc nL ret own) {k : Nat} {x : Nat} {g : Nat → Nat} (hk : k < 155) (hg : r_pKind S = g) (hd : decode cc pc = .ok (.iastore, 1)) (kk : V p l e R s m args below meth c (Gz z) nL cells slots Q (mw z b (w_pKind S (va_up g k x))) (pc + 1) lv (sk)) : V p l e R s m args below meth c (Gz z) nL cells slots Q (mw z b S) pc lv (.int (nI x) :: .int (nI k) :: .ref (b 8) :: sk) := by
  subst hg
  exact V.iastN X 8 0 rfl rfl hk (by decide) rfl hd kk
theorem l_Mo_pWord (X : Cx p s m args meth c (Gz z) cc nL ret own) {k : Nat} {x : Int32} (hk : k < 155) (hx : r_pWord S k = x) (hd : decode cc pc = .ok (.iaload, 1)) (kk : V p l e R s m args below meth c (Gz z) nL cells slots Q (mw z b S) (pc + 1) lv (.int x :: sk)) : V p l e R s m args below meth c (Gz z) nL cells slots Q (mw z b S) pc lv (.int (nI k) :: .ref (b 9) :: sk) := by
  subst hx
  exact V.iald X 9 0 rfl rfl hk (by decide) hd kk
theorem s_Mo_pWord (X : Cx p s m args meth c (Gz z) cc nL ret own) {k : Nat} {x : Int32} {g : Nat → Int32} (hk : k < 155) (hg : r_pWord S = g) (hd : decode cc pc = .ok (.iastore, 1)) (kk : V p l e R s m args below meth c (Gz z) nL cells slots Q (mw z b (w_pWord S (upd g k x))) (pc + 1) lv (sk)) : V p l e R s m args below meth c (Gz z) nL cells slots Q (mw z b S) pc lv (.int x :: .int (nI k) :: .ref (b 9) :: sk) := by
  subst hg
  exact V.iast X 9 0 rfl rfl hk (by decide) rfl hd kk
theorem l_Mo_pMeans (X : Cx p s m args meth c (Gz z) cc nL ret own) {k : Nat} {x : Nat} (hk : k < 155) (hx : r_pMeans S k = x) (hd : decode cc pc = .ok (.iaload, 1)) (kk : V p l e R s m args below meth c (Gz z) nL cells slots Q (mw z b S) (pc + 1) lv (.int (nI x) :: sk)) : V p l e R s m args below meth c (Gz z) nL cells slots Q (mw z b S) pc lv (.int (nI k) :: .ref (b 10) :: sk) := by
  subst hx
  exact V.iald X 10 0 rfl rfl hk (by decide) hd kk
theorem s_Mo_pMeans (X : Cx p s m args meth c (Gz z) cc nL ret own) {k : Nat} {x : Nat} {g : Nat → Nat} (hk : k < 155) (hg : r_pMeans S = g) (hd : decode cc pc = .ok (.iastore, 1)) (kk : V p l e R s m args below meth c (Gz z) nL cells slots Q (mw z b (w_pMeans S (va_up g k x))) (pc + 1) lv (sk)) : V p l e R s m args below meth c (Gz z) nL cells slots Q (mw z b S) pc lv (.int (nI x) :: .int (nI k) :: .ref (b 10) :: sk) := by
  subst hg
  exact V.iastN X 10 0 rfl rfl hk (by decide) rfl hd kk
theorem l_Mo_pNext (X : Cx p s m args meth c (Gz z) cc nL ret own) {k : Nat} {x : Nat} (hk : k < 155) (hx : r_pNext S k = x) (hd : decode cc pc = .ok (.iaload, 1)) (kk : V p l e R s m args below meth c (Gz z) nL cells slots Q (mw z b S) (pc + 1) lv (.int (nI x) :: sk)) : V p l e R s m args below meth c (Gz z) nL cells slots Q (mw z b S) pc lv (.int (nI k) :: .ref (b 11) :: sk) := by
  subst hx
  exact V.iald X 11 0 rfl rfl hk (by decide) hd kk
theorem s_Mo_pNext (X : Cx p s m args meth c (Gz z) cc nL ret own) {k : Nat} {x : Nat} {g : Nat → Nat} (hk : k < 155) (hg : r_pNext S = g) (hd : decode cc pc = .ok (.iastore, 1)) (kk : V p l e R s m args below meth c (Gz z) nL cells slots Q (mw z b (w_pNext S (va_up g k x))) (pc + 1) lv (sk)) : V p l e R s m args below meth c (Gz z) nL cells slots Q (mw z b S) pc lv (.int (nI x) :: .int (nI k) :: .ref (b 11) :: sk) := by
  subst hg
  exact V.iastN X 11 0 rfl rfl hk (by decide) rfl hd kk
theorem l_Mo_name (X : Cx p s m args meth c (Gz z) cc nL ret own) {k : Nat} {x : Int64} (hk : k < 18) (hx : r_name S k = x) (hd : decode cc pc = .ok (.laload, 1)) (kk : V p l e R s m args below meth c (Gz z) nL cells slots Q (mw z b S) (pc + 1) lv (.long x :: sk)) : V p l e R s m args below meth c (Gz z) nL cells slots Q (mw z b S) pc lv (.int (nI k) :: .ref (b 12) :: sk) := by
  subst hx
  exact V.lald X 12 1 rfl rfl hk (by decide) hd kk
theorem s_Mo_name (X : Cx p s m args meth c (Gz z) cc nL ret own) {k : Nat} {x : Int64} {g : Nat → Int64} (hk : k < 18) (hg : r_name S = g) (hd : decode cc pc = .ok (.lastore, 1)) (kk : V p l e R s m args below meth c (Gz z) nL cells slots Q (mw z b (w_name S (va_up g k x))) (pc + 1) lv (sk)) : V p l e R s m args below meth c (Gz z) nL cells slots Q (mw z b S) pc lv (.long x :: .int (nI k) :: .ref (b 12) :: sk) := by
  subst hg
  exact V.last X 12 1 rfl rfl hk (by decide) rfl hd kk
theorem l_Mo_sort (X : Cx p s m args meth c (Gz z) cc nL ret own) {k : Nat} {x : Nat} (hk : k < 18) (hx : r_sort S k = x) (hd : decode cc pc = .ok (.iaload, 1)) (kk : V p l e R s m args below meth c (Gz z) nL cells slots Q (mw z b S) (pc + 1) lv (.int (nI x) :: sk)) : V p l e R s m args below meth c (Gz z) nL cells slots Q (mw z b S) pc lv (.int (nI k) :: .ref (b 13) :: sk) := by
  subst hx
  exact V.iald X 13 0 rfl rfl hk (by decide) hd kk
theorem s_Mo_sort (X : Cx p s m args meth c (Gz z) cc nL ret own) {k : Nat} {x : Nat} {g : Nat → Nat} (hk : k < 18) (hg : r_sort S = g) (hd : decode cc pc = .ok (.iastore, 1)) (kk : V p l e R s m args below meth c (Gz z) nL cells slots Q (mw z b (w_sort S (va_up g k x))) (pc + 1) lv (sk)) : V p l e R s m args below meth c (Gz z) nL cells slots Q (mw z b S) pc lv (.int (nI x) :: .int (nI k) :: .ref (b 13) :: sk) := by
  subst hg
  exact V.iastN X 13 0 rfl rfl hk (by decide) rfl hd kk
theorem l_Mo_home (X : Cx p s m args meth c (Gz z) cc nL ret own) {k : Nat} {x : Nat} (hk : k < 18) (hx : r_home S k = x) (hd : decode cc pc = .ok (.iaload, 1)) (kk : V p l e R s m args below meth c (Gz z) nL cells slots Q (mw z b S) (pc + 1) lv (.int (nI x) :: sk)) : V p l e R s m args below meth c (Gz z) nL cells slots Q (mw z b S) pc lv (.int (nI k) :: .ref (b 14) :: sk) := by
  subst hx
  exact V.iald X 14 0 rfl rfl hk (by decide) hd kk
theorem s_Mo_home (X : Cx p s m args meth c (Gz z) cc nL ret own) {k : Nat} {x : Nat} {g : Nat → Nat} (hk : k < 18) (hg : r_home S = g) (hd : decode cc pc = .ok (.iastore, 1)) (kk : V p l e R s m args below meth c (Gz z) nL cells slots Q (mw z b (w_home S (va_up g k x))) (pc + 1) lv (sk)) : V p l e R s m args below meth c (Gz z) nL cells slots Q (mw z b S) pc lv (.int (nI x) :: .int (nI k) :: .ref (b 14) :: sk) := by
  subst hg
  exact V.iastN X 14 0 rfl rfl hk (by decide) rfl hd kk
theorem l_Mo_own (X : Cx p s m args meth c (Gz z) cc nL ret own) {k : Nat} {x : Nat} (hk : k < 18) (hx : r_own S k = x) (hd : decode cc pc = .ok (.iaload, 1)) (kk : V p l e R s m args below meth c (Gz z) nL cells slots Q (mw z b S) (pc + 1) lv (.int (nI x) :: sk)) : V p l e R s m args below meth c (Gz z) nL cells slots Q (mw z b S) pc lv (.int (nI k) :: .ref (b 15) :: sk) := by
  subst hx
  exact V.iald X 15 0 rfl rfl hk (by decide) hd kk
theorem s_Mo_own (X : Cx p s m args meth c (Gz z) cc nL ret own) {k : Nat} {x : Nat} {g : Nat → Nat} (hk : k < 18) (hg : r_own S = g) (hd : decode cc pc = .ok (.iastore, 1)) (kk : V p l e R s m args below meth c (Gz z) nL cells slots Q (mw z b (w_own S (va_up g k x))) (pc + 1) lv (sk)) : V p l e R s m args below meth c (Gz z) nL cells slots Q (mw z b S) pc lv (.int (nI x) :: .int (nI k) :: .ref (b 15) :: sk) := by
  subst hg
  exact V.iastN X 15 0 rfl rfl hk (by decide) rfl hd kk
theorem l_Mo_wants (X : Cx p s m args meth c (Gz z) cc nL ret own) {k : Nat} {x : Nat} (hk : k < 18) (hx : r_wants S k = x) (hd : decode cc pc = .ok (.iaload, 1)) (kk : V p l e R s m args below meth c (Gz z) nL cells slots Q (mw z b S) (pc + 1) lv (.int (nI x) :: sk)) : V p l e R s m args below meth c (Gz z) nL cells slots Q (mw z b S) pc lv (.int (nI k) :: .ref (b 16) :: sk) := by
  subst hx
  exact V.iald X 16 0 rfl rfl hk (by decide) hd kk
theorem s_Mo_wants (X : Cx p s m args meth c (Gz z) cc nL ret own) {k : Nat} {x : Nat} {g : Nat → Nat} (hk : k < 18) (hg : r_wants S = g) (hd : decode cc pc = .ok (.iastore, 1)) (kk : V p l e R s m args below meth c (Gz z) nL cells slots Q (mw z b (w_wants S (va_up g k x))) (pc + 1) lv (sk)) : V p l e R s m args below meth c (Gz z) nL cells slots Q (mw z b S) pc lv (.int (nI x) :: .int (nI k) :: .ref (b 16) :: sk) := by
  subst hg
  exact V.iastN X 16 0 rfl rfl hk (by decide) rfl hd kk
theorem l_Mo_around (X : Cx p s m args meth c (Gz z) cc nL ret own) {k : Nat} {x : Option Nat} (hk : k < 8) (hx : r_around S k = x) (hd : decode cc pc = .ok (.iaload, 1)) (kk : V p l e R s m args below meth c (Gz z) nL cells slots Q (mw z b S) (pc + 1) lv (.int (fI x) :: sk)) : V p l e R s m args below meth c (Gz z) nL cells slots Q (mw z b S) pc lv (.int (nI k) :: .ref (b 17) :: sk) := by
  subst hx
  exact V.iald X 17 0 rfl rfl hk (by decide) hd kk
theorem s_Mo_around (X : Cx p s m args meth c (Gz z) cc nL ret own) {k : Nat} {x : Option Nat} {g : Nat → Option Nat} (hk : k < 8) (hg : r_around S = g) (hd : decode cc pc = .ok (.iastore, 1)) (kk : V p l e R s m args below meth c (Gz z) nL cells slots Q (mw z b (w_around S (va_up g k x))) (pc + 1) lv (sk)) : V p l e R s m args below meth c (Gz z) nL cells slots Q (mw z b S) pc lv (.int (fI x) :: .int (nI k) :: .ref (b 17) :: sk) := by
  subst hg
  exact V.iast X 17 0 rfl rfl hk (by decide) (by rw [up_fI]; rfl) hd kk
theorem l_Mo_body (X : Cx p s m args meth c (Gz z) cc nL ret own) {k : Nat} {x : Nat} (hk : k < 8) (hx : r_body S k = x) (hd : decode cc pc = .ok (.iaload, 1)) (kk : V p l e R s m args below meth c (Gz z) nL cells slots Q (mw z b S) (pc + 1) lv (.int (nI x) :: sk)) : V p l e R s m args below meth c (Gz z) nL cells slots Q (mw z b S) pc lv (.int (nI k) :: .ref (b 18) :: sk) := by
  subst hx
  exact V.iald X 18 0 rfl rfl hk (by decide) hd kk
theorem s_Mo_body (X : Cx p s m args meth c (Gz z) cc nL ret own) {k : Nat} {x : Nat} {g : Nat → Nat} (hk : k < 8) (hg : r_body S = g) (hd : decode cc pc = .ok (.iastore, 1)) (kk : V p l e R s m args below meth c (Gz z) nL cells slots Q (mw z b (w_body S (va_up g k x))) (pc + 1) lv (sk)) : V p l e R s m args below meth c (Gz z) nL cells slots Q (mw z b S) pc lv (.int (nI x) :: .int (nI k) :: .ref (b 18) :: sk) := by
  subst hg
  exact V.iastN X 18 0 rfl rfl hk (by decide) rfl hd kk
theorem l_Mo_pSort (X : Cx p s m args meth c (Gz z) cc nL ret own) {k : Nat} {x : Nat} (hk : k < 18) (hx : r_pSort S k = x) (hd : decode cc pc = .ok (.iaload, 1)) (kk : V p l e R s m args below meth c (Gz z) nL cells slots Q (mw z b S) (pc + 1) lv (.int (nI x) :: sk)) : V p l e R s m args below meth c (Gz z) nL cells slots Q (mw z b S) pc lv (.int (nI k) :: .ref (b 19) :: sk) := by
  subst hx
  exact V.iald X 19 0 rfl rfl hk (by decide) hd kk
theorem s_Mo_pSort (X : Cx p s m args meth c (Gz z) cc nL ret own) {k : Nat} {x : Nat} {g : Nat → Nat} (hk : k < 18) (hg : r_pSort S = g) (hd : decode cc pc = .ok (.iastore, 1)) (kk : V p l e R s m args below meth c (Gz z) nL cells slots Q (mw z b (w_pSort S (va_up g k x))) (pc + 1) lv (sk)) : V p l e R s m args below meth c (Gz z) nL cells slots Q (mw z b S) pc lv (.int (nI x) :: .int (nI k) :: .ref (b 19) :: sk) := by
  subst hg
  exact V.iastN X 19 0 rfl rfl hk (by decide) rfl hd kk
theorem l_Mo_pHome (X : Cx p s m args meth c (Gz z) cc nL ret own) {k : Nat} {x : Nat} (hk : k < 18) (hx : r_pHome S k = x) (hd : decode cc pc = .ok (.iaload, 1)) (kk : V p l e R s m args below meth c (Gz z) nL cells slots Q (mw z b S) (pc + 1) lv (.int (nI x) :: sk)) : V p l e R s m args below meth c (Gz z) nL cells slots Q (mw z b S) pc lv (.int (nI k) :: .ref (b 20) :: sk) := by
  subst hx
  exact V.iald X 20 0 rfl rfl hk (by decide) hd kk
theorem s_Mo_pHome (X : Cx p s m args meth c (Gz z) cc nL ret own) {k : Nat} {x : Nat} {g : Nat → Nat} (hk : k < 18) (hg : r_pHome S = g) (hd : decode cc pc = .ok (.iastore, 1)) (kk : V p l e R s m args below meth c (Gz z) nL cells slots Q (mw z b (w_pHome S (va_up g k x))) (pc + 1) lv (sk)) : V p l e R s m args below meth c (Gz z) nL cells slots Q (mw z b S) pc lv (.int (nI x) :: .int (nI k) :: .ref (b 20) :: sk) := by
  subst hg
  exact V.iastN X 20 0 rfl rfl hk (by decide) rfl hd kk
theorem l_Mo_pOwn (X : Cx p s m args meth c (Gz z) cc nL ret own) {k : Nat} {x : Nat} (hk : k < 18) (hx : r_pOwn S k = x) (hd : decode cc pc = .ok (.iaload, 1)) (kk : V p l e R s m args below meth c (Gz z) nL cells slots Q (mw z b S) (pc + 1) lv (.int (nI x) :: sk)) : V p l e R s m args below meth c (Gz z) nL cells slots Q (mw z b S) pc lv (.int (nI k) :: .ref (b 21) :: sk) := by
  subst hx
  exact V.iald X 21 0 rfl rfl hk (by decide) hd kk
theorem s_Mo_pOwn (X : Cx p s m args meth c (Gz z) cc nL ret own) {k : Nat} {x : Nat} {g : Nat → Nat} (hk : k < 18) (hg : r_pOwn S = g) (hd : decode cc pc = .ok (.iastore, 1)) (kk : V p l e R s m args below meth c (Gz z) nL cells slots Q (mw z b (w_pOwn S (va_up g k x))) (pc + 1) lv (sk)) : V p l e R s m args below meth c (Gz z) nL cells slots Q (mw z b S) pc lv (.int (nI x) :: .int (nI k) :: .ref (b 21) :: sk) := by
  subst hg
  exact V.iastN X 21 0 rfl rfl hk (by decide) rfl hd kk
theorem l_Mo_pWants (X : Cx p s m args meth c (Gz z) cc nL ret own) {k : Nat} {x : Nat} (hk : k < 18) (hx : r_pWants S k = x) (hd : decode cc pc = .ok (.iaload, 1)) (kk : V p l e R s m args below meth c (Gz z) nL cells slots Q (mw z b S) (pc + 1) lv (.int (nI x) :: sk)) : V p l e R s m args below meth c (Gz z) nL cells slots Q (mw z b S) pc lv (.int (nI k) :: .ref (b 22) :: sk) := by
  subst hx
  exact V.iald X 22 0 rfl rfl hk (by decide) hd kk
theorem s_Mo_pWants (X : Cx p s m args meth c (Gz z) cc nL ret own) {k : Nat} {x : Nat} {g : Nat → Nat} (hk : k < 18) (hg : r_pWants S = g) (hd : decode cc pc = .ok (.iastore, 1)) (kk : V p l e R s m args below meth c (Gz z) nL cells slots Q (mw z b (w_pWants S (va_up g k x))) (pc + 1) lv (sk)) : V p l e R s m args below meth c (Gz z) nL cells slots Q (mw z b S) pc lv (.int (nI x) :: .int (nI k) :: .ref (b 22) :: sk) := by
  subst hg
  exact V.iastN X 22 0 rfl rfl hk (by decide) rfl hd kk
theorem l_Mo_pBody (X : Cx p s m args meth c (Gz z) cc nL ret own) {k : Nat} {x : Nat} (hk : k < 8) (hx : r_pBody S k = x) (hd : decode cc pc = .ok (.iaload, 1)) (kk : V p l e R s m args below meth c (Gz z) nL cells slots Q (mw z b S) (pc + 1) lv (.int (nI x) :: sk)) : V p l e R s m args below meth c (Gz z) nL cells slots Q (mw z b S) pc lv (.int (nI k) :: .ref (b 23) :: sk) := by
  subst hx
  exact V.iald X 23 0 rfl rfl hk (by decide) hd kk
theorem s_Mo_pBody (X : Cx p s m args meth c (Gz z) cc nL ret own) {k : Nat} {x : Nat} {g : Nat → Nat} (hk : k < 8) (hg : r_pBody S = g) (hd : decode cc pc = .ok (.iastore, 1)) (kk : V p l e R s m args below meth c (Gz z) nL cells slots Q (mw z b (w_pBody S (va_up g k x))) (pc + 1) lv (sk)) : V p l e R s m args below meth c (Gz z) nL cells slots Q (mw z b S) pc lv (.int (nI x) :: .int (nI k) :: .ref (b 23) :: sk) := by
  subst hg
  exact V.iastN X 23 0 rfl rfl hk (by decide) rfl hd kk
theorem l_Mo_within (X : Cx p s m args meth c (Gz z) cc nL ret own) {k : Nat} {x : Nat} (hk : k < 10) (hx : r_within S k = x) (hd : decode cc pc = .ok (.iaload, 1)) (kk : V p l e R s m args below meth c (Gz z) nL cells slots Q (mw z b S) (pc + 1) lv (.int (nI x) :: sk)) : V p l e R s m args below meth c (Gz z) nL cells slots Q (mw z b S) pc lv (.int (nI k) :: .ref (b 24) :: sk) := by
  subst hx
  exact V.iald X 24 0 rfl rfl hk (by decide) hd kk
theorem s_Mo_within (X : Cx p s m args meth c (Gz z) cc nL ret own) {k : Nat} {x : Nat} {g : Nat → Nat} (hk : k < 10) (hg : r_within S = g) (hd : decode cc pc = .ok (.iastore, 1)) (kk : V p l e R s m args below meth c (Gz z) nL cells slots Q (mw z b (w_within S (va_up g k x))) (pc + 1) lv (sk)) : V p l e R s m args below meth c (Gz z) nL cells slots Q (mw z b S) pc lv (.int (nI x) :: .int (nI k) :: .ref (b 24) :: sk) := by
  subst hg
  exact V.iastN X 24 0 rfl rfl hk (by decide) rfl hd kk
theorem l_Mo_since (X : Cx p s m args meth c (Gz z) cc nL ret own) {k : Nat} {x : Nat} (hk : k < 10) (hx : r_since S k = x) (hd : decode cc pc = .ok (.iaload, 1)) (kk : V p l e R s m args below meth c (Gz z) nL cells slots Q (mw z b S) (pc + 1) lv (.int (nI x) :: sk)) : V p l e R s m args below meth c (Gz z) nL cells slots Q (mw z b S) pc lv (.int (nI k) :: .ref (b 25) :: sk) := by
  subst hx
  exact V.iald X 25 0 rfl rfl hk (by decide) hd kk
theorem s_Mo_since (X : Cx p s m args meth c (Gz z) cc nL ret own) {k : Nat} {x : Nat} {g : Nat → Nat} (hk : k < 10) (hg : r_since S = g) (hd : decode cc pc = .ok (.iastore, 1)) (kk : V p l e R s m args below meth c (Gz z) nL cells slots Q (mw z b (w_since S (va_up g k x))) (pc + 1) lv (sk)) : V p l e R s m args below meth c (Gz z) nL cells slots Q (mw z b S) pc lv (.int (nI x) :: .int (nI k) :: .ref (b 25) :: sk) := by
  subst hg
  exact V.iastN X 25 0 rfl rfl hk (by decide) rfl hd kk
theorem l_Mo_cell (X : Cx p s m args meth c (Gz z) cc nL ret own) {k : Nat} {x : Int32} (hk : k < 132) (hx : r_cell S k = x) (hd : decode cc pc = .ok (.iaload, 1)) (kk : V p l e R s m args below meth c (Gz z) nL cells slots Q (mw z b S) (pc + 1) lv (.int x :: sk)) : V p l e R s m args below meth c (Gz z) nL cells slots Q (mw z b S) pc lv (.int (nI k) :: .ref (b 26) :: sk) := by
  subst hx
  exact V.iald X 26 0 rfl rfl hk (by decide) hd kk
theorem s_Mo_cell (X : Cx p s m args meth c (Gz z) cc nL ret own) {k : Nat} {x : Int32} {g : Nat → Int32} (hk : k < 132) (hg : r_cell S = g) (hd : decode cc pc = .ok (.iastore, 1)) (kk : V p l e R s m args below meth c (Gz z) nL cells slots Q (mw z b (w_cell S (upd g k x))) (pc + 1) lv (sk)) : V p l e R s m args below meth c (Gz z) nL cells slots Q (mw z b S) pc lv (.int x :: .int (nI k) :: .ref (b 26) :: sk) := by
  subst hg
  exact V.iast X 26 0 rfl rfl hk (by decide) rfl hd kk
theorem l_Mo_stands (X : Cx p s m args meth c (Gz z) cc nL ret own) {k : Nat} {x : Nat} (hk : k < 132) (hx : r_stands S k = x) (hd : decode cc pc = .ok (.iaload, 1)) (kk : V p l e R s m args below meth c (Gz z) nL cells slots Q (mw z b S) (pc + 1) lv (.int (nI x) :: sk)) : V p l e R s m args below meth c (Gz z) nL cells slots Q (mw z b S) pc lv (.int (nI k) :: .ref (b 27) :: sk) := by
  subst hx
  exact V.iald X 27 0 rfl rfl hk (by decide) hd kk
theorem s_Mo_stands (X : Cx p s m args meth c (Gz z) cc nL ret own) {k : Nat} {x : Nat} {g : Nat → Nat} (hk : k < 132) (hg : r_stands S = g) (hd : decode cc pc = .ok (.iastore, 1)) (kk : V p l e R s m args below meth c (Gz z) nL cells slots Q (mw z b (w_stands S (va_up g k x))) (pc + 1) lv (sk)) : V p l e R s m args below meth c (Gz z) nL cells slots Q (mw z b S) pc lv (.int (nI x) :: .int (nI k) :: .ref (b 27) :: sk) := by
  subst hg
  exact V.iastN X 27 0 rfl rfl hk (by decide) rfl hd kk
theorem l_Mo_blockOf (X : Cx p s m args meth c (Gz z) cc nL ret own) {k : Nat} {x : Nat} (hk : k < 11) (hx : r_blockOf S k = x) (hd : decode cc pc = .ok (.iaload, 1)) (kk : V p l e R s m args below meth c (Gz z) nL cells slots Q (mw z b S) (pc + 1) lv (.int (nI x) :: sk)) : V p l e R s m args below meth c (Gz z) nL cells slots Q (mw z b S) pc lv (.int (nI k) :: .ref (b 28) :: sk) := by
  subst hx
  exact V.iald X 28 0 rfl rfl hk (by decide) hd kk
theorem s_Mo_blockOf (X : Cx p s m args meth c (Gz z) cc nL ret own) {k : Nat} {x : Nat} {g : Nat → Nat} (hk : k < 11) (hg : r_blockOf S = g) (hd : decode cc pc = .ok (.iastore, 1)) (kk : V p l e R s m args below meth c (Gz z) nL cells slots Q (mw z b (w_blockOf S (va_up g k x))) (pc + 1) lv (sk)) : V p l e R s m args below meth c (Gz z) nL cells slots Q (mw z b S) pc lv (.int (nI x) :: .int (nI k) :: .ref (b 28) :: sk) := by
  subst hg
  exact V.iastN X 28 0 rfl rfl hk (by decide) rfl hd kk
theorem l_Mo_outer (X : Cx p s m args meth c (Gz z) cc nL ret own) {k : Nat} {x : Option Nat} (hk : k < 11) (hx : r_outer S k = x) (hd : decode cc pc = .ok (.iaload, 1)) (kk : V p l e R s m args below meth c (Gz z) nL cells slots Q (mw z b S) (pc + 1) lv (.int (fI x) :: sk)) : V p l e R s m args below meth c (Gz z) nL cells slots Q (mw z b S) pc lv (.int (nI k) :: .ref (b 29) :: sk) := by
  subst hx
  exact V.iald X 29 0 rfl rfl hk (by decide) hd kk
theorem s_Mo_outer (X : Cx p s m args meth c (Gz z) cc nL ret own) {k : Nat} {x : Option Nat} {g : Nat → Option Nat} (hk : k < 11) (hg : r_outer S = g) (hd : decode cc pc = .ok (.iastore, 1)) (kk : V p l e R s m args below meth c (Gz z) nL cells slots Q (mw z b (w_outer S (va_up g k x))) (pc + 1) lv (sk)) : V p l e R s m args below meth c (Gz z) nL cells slots Q (mw z b S) pc lv (.int (fI x) :: .int (nI k) :: .ref (b 29) :: sk) := by
  subst hg
  exact V.iast X 29 0 rfl rfl hk (by decide) (by rw [up_fI]; rfl) hd kk
theorem l_Mo_back (X : Cx p s m args meth c (Gz z) cc nL ret own) {k : Nat} {x : Nat} (hk : k < 11) (hx : r_back S k = x) (hd : decode cc pc = .ok (.iaload, 1)) (kk : V p l e R s m args below meth c (Gz z) nL cells slots Q (mw z b S) (pc + 1) lv (.int (nI x) :: sk)) : V p l e R s m args below meth c (Gz z) nL cells slots Q (mw z b S) pc lv (.int (nI k) :: .ref (b 30) :: sk) := by
  subst hx
  exact V.iald X 30 0 rfl rfl hk (by decide) hd kk
theorem s_Mo_back (X : Cx p s m args meth c (Gz z) cc nL ret own) {k : Nat} {x : Nat} {g : Nat → Nat} (hk : k < 11) (hg : r_back S = g) (hd : decode cc pc = .ok (.iastore, 1)) (kk : V p l e R s m args below meth c (Gz z) nL cells slots Q (mw z b (w_back S (va_up g k x))) (pc + 1) lv (sk)) : V p l e R s m args below meth c (Gz z) nL cells slots Q (mw z b S) pc lv (.int (nI x) :: .int (nI k) :: .ref (b 30) :: sk) := by
  subst hg
  exact V.iastN X 30 0 rfl rfl hk (by decide) rfl hd kk
theorem l_Mo_level (X : Cx p s m args meth c (Gz z) cc nL ret own) {k : Nat} {x : Nat} (hk : k < 11) (hx : r_level S k = x) (hd : decode cc pc = .ok (.iaload, 1)) (kk : V p l e R s m args below meth c (Gz z) nL cells slots Q (mw z b S) (pc + 1) lv (.int (nI x) :: sk)) : V p l e R s m args below meth c (Gz z) nL cells slots Q (mw z b S) pc lv (.int (nI k) :: .ref (b 31) :: sk) := by
  subst hx
  exact V.iald X 31 0 rfl rfl hk (by decide) hd kk
theorem s_Mo_level (X : Cx p s m args meth c (Gz z) cc nL ret own) {k : Nat} {x : Nat} {g : Nat → Nat} (hk : k < 11) (hg : r_level S = g) (hd : decode cc pc = .ok (.iastore, 1)) (kk : V p l e R s m args below meth c (Gz z) nL cells slots Q (mw z b (w_level S (va_up g k x))) (pc + 1) lv (sk)) : V p l e R s m args below meth c (Gz z) nL cells slots Q (mw z b S) pc lv (.int (nI x) :: .int (nI k) :: .ref (b 31) :: sk) := by
  subst hg
  exact V.iastN X 31 0 rfl rfl hk (by decide) rfl hd kk
theorem l_Mo_doing (X : Cx p s m args meth c (Gz z) cc nL ret own) {k : Nat} {x : Nat} (hk : k < 110) (hx : r_doing S k = x) (hd : decode cc pc = .ok (.iaload, 1)) (kk : V p l e R s m args below meth c (Gz z) nL cells slots Q (mw z b S) (pc + 1) lv (.int (nI x) :: sk)) : V p l e R s m args below meth c (Gz z) nL cells slots Q (mw z b S) pc lv (.int (nI k) :: .ref (b 32) :: sk) := by
  subst hx
  exact V.iald X 32 0 rfl rfl hk (by decide) hd kk
theorem s_Mo_doing (X : Cx p s m args meth c (Gz z) cc nL ret own) {k : Nat} {x : Nat} {g : Nat → Nat} (hk : k < 110) (hg : r_doing S = g) (hd : decode cc pc = .ok (.iastore, 1)) (kk : V p l e R s m args below meth c (Gz z) nL cells slots Q (mw z b (w_doing S (va_up g k x))) (pc + 1) lv (sk)) : V p l e R s m args below meth c (Gz z) nL cells slots Q (mw z b S) pc lv (.int (nI x) :: .int (nI k) :: .ref (b 32) :: sk) := by
  subst hg
  exact V.iastN X 32 0 rfl rfl hk (by decide) rfl hd kk
theorem l_Mo_doneAt (X : Cx p s m args meth c (Gz z) cc nL ret own) {k : Nat} {x : Nat} (hk : k < 110) (hx : r_doneAt S k = x) (hd : decode cc pc = .ok (.iaload, 1)) (kk : V p l e R s m args below meth c (Gz z) nL cells slots Q (mw z b S) (pc + 1) lv (.int (nI x) :: sk)) : V p l e R s m args below meth c (Gz z) nL cells slots Q (mw z b S) pc lv (.int (nI k) :: .ref (b 33) :: sk) := by
  subst hx
  exact V.iald X 33 0 rfl rfl hk (by decide) hd kk
theorem s_Mo_doneAt (X : Cx p s m args meth c (Gz z) cc nL ret own) {k : Nat} {x : Nat} {g : Nat → Nat} (hk : k < 110) (hg : r_doneAt S = g) (hd : decode cc pc = .ok (.iastore, 1)) (kk : V p l e R s m args below meth c (Gz z) nL cells slots Q (mw z b (w_doneAt S (va_up g k x))) (pc + 1) lv (sk)) : V p l e R s m args below meth c (Gz z) nL cells slots Q (mw z b S) pc lv (.int (nI x) :: .int (nI k) :: .ref (b 33) :: sk) := by
  subst hg
  exact V.iastN X 33 0 rfl rfl hk (by decide) rfl hd kk
theorem l_Mo_output (X : Cx p s m args meth c (Gz z) cc nL ret own) {k : Nat} {x : Int32} (hk : k < 32) (hx : r_output S k = x) (hd : decode cc pc = .ok (.iaload, 1)) (kk : V p l e R s m args below meth c (Gz z) nL cells slots Q (mw z b S) (pc + 1) lv (.int x :: sk)) : V p l e R s m args below meth c (Gz z) nL cells slots Q (mw z b S) pc lv (.int (nI k) :: .ref (b 34) :: sk) := by
  subst hx
  exact V.iald X 34 0 rfl rfl hk (by decide) hd kk
theorem s_Mo_output (X : Cx p s m args meth c (Gz z) cc nL ret own) {k : Nat} {x : Int32} {g : Nat → Int32} (hk : k < 32) (hg : r_output S = g) (hd : decode cc pc = .ok (.iastore, 1)) (kk : V p l e R s m args below meth c (Gz z) nL cells slots Q (mw z b (w_output S (upd g k x))) (pc + 1) lv (sk)) : V p l e R s m args below meth c (Gz z) nL cells slots Q (mw z b S) pc lv (.int x :: .int (nI k) :: .ref (b 34) :: sk) := by
  subst hg
  exact V.iast X 34 0 rfl rfl hk (by decide) rfl hd kk
theorem l_Mo_sum (X : Cx p s m args meth c (Gz z) cc nL ret own) {k : Nat} {x : Int32} (hk : k < 10) (hx : r_sum S k = x) (hd : decode cc pc = .ok (.iaload, 1)) (kk : V p l e R s m args below meth c (Gz z) nL cells slots Q (mw z b S) (pc + 1) lv (.int x :: sk)) : V p l e R s m args below meth c (Gz z) nL cells slots Q (mw z b S) pc lv (.int (nI k) :: .ref (b 35) :: sk) := by
  subst hx
  exact V.iald X 35 0 rfl rfl hk (by decide) hd kk
theorem s_Mo_sum (X : Cx p s m args meth c (Gz z) cc nL ret own) {k : Nat} {x : Int32} {g : Nat → Int32} (hk : k < 10) (hg : r_sum S = g) (hd : decode cc pc = .ok (.iastore, 1)) (kk : V p l e R s m args below meth c (Gz z) nL cells slots Q (mw z b (w_sum S (upd g k x))) (pc + 1) lv (sk)) : V p l e R s m args below meth c (Gz z) nL cells slots Q (mw z b S) pc lv (.int x :: .int (nI k) :: .ref (b 35) :: sk) := by
  subst hg
  exact V.iast X 35 0 rfl rfl hk (by decide) rfl hd kk
theorem l_Mo_term (X : Cx p s m args meth c (Gz z) cc nL ret own) {k : Nat} {x : Int32} (hk : k < 10) (hx : r_term S k = x) (hd : decode cc pc = .ok (.iaload, 1)) (kk : V p l e R s m args below meth c (Gz z) nL cells slots Q (mw z b S) (pc + 1) lv (.int x :: sk)) : V p l e R s m args below meth c (Gz z) nL cells slots Q (mw z b S) pc lv (.int (nI k) :: .ref (b 36) :: sk) := by
  subst hx
  exact V.iald X 36 0 rfl rfl hk (by decide) hd kk
theorem s_Mo_term (X : Cx p s m args meth c (Gz z) cc nL ret own) {k : Nat} {x : Int32} {g : Nat → Int32} (hk : k < 10) (hg : r_term S = g) (hd : decode cc pc = .ok (.iastore, 1)) (kk : V p l e R s m args below meth c (Gz z) nL cells slots Q (mw z b (w_term S (upd g k x))) (pc + 1) lv (sk)) : V p l e R s m args below meth c (Gz z) nL cells slots Q (mw z b S) pc lv (.int x :: .int (nI k) :: .ref (b 36) :: sk) := by
  subst hg
  exact V.iast X 36 0 rfl rfl hk (by decide) rfl hd kk
theorem l_Mo_sumSign (X : Cx p s m args meth c (Gz z) cc nL ret own) {k : Nat} {x : Nat} (hk : k < 10) (hx : r_sumSign S k = x) (hd : decode cc pc = .ok (.iaload, 1)) (kk : V p l e R s m args below meth c (Gz z) nL cells slots Q (mw z b S) (pc + 1) lv (.int (nI x) :: sk)) : V p l e R s m args below meth c (Gz z) nL cells slots Q (mw z b S) pc lv (.int (nI k) :: .ref (b 37) :: sk) := by
  subst hx
  exact V.iald X 37 0 rfl rfl hk (by decide) hd kk
theorem s_Mo_sumSign (X : Cx p s m args meth c (Gz z) cc nL ret own) {k : Nat} {x : Nat} {g : Nat → Nat} (hk : k < 10) (hg : r_sumSign S = g) (hd : decode cc pc = .ok (.iastore, 1)) (kk : V p l e R s m args below meth c (Gz z) nL cells slots Q (mw z b (w_sumSign S (va_up g k x))) (pc + 1) lv (sk)) : V p l e R s m args below meth c (Gz z) nL cells slots Q (mw z b S) pc lv (.int (nI x) :: .int (nI k) :: .ref (b 37) :: sk) := by
  subst hg
  exact V.iastN X 37 0 rfl rfl hk (by decide) rfl hd kk
theorem l_Mo_termSign (X : Cx p s m args meth c (Gz z) cc nL ret own) {k : Nat} {x : Nat} (hk : k < 10) (hx : r_termSign S k = x) (hd : decode cc pc = .ok (.iaload, 1)) (kk : V p l e R s m args below meth c (Gz z) nL cells slots Q (mw z b S) (pc + 1) lv (.int (nI x) :: sk)) : V p l e R s m args below meth c (Gz z) nL cells slots Q (mw z b S) pc lv (.int (nI k) :: .ref (b 38) :: sk) := by
  subst hx
  exact V.iald X 38 0 rfl rfl hk (by decide) hd kk
theorem s_Mo_termSign (X : Cx p s m args meth c (Gz z) cc nL ret own) {k : Nat} {x : Nat} {g : Nat → Nat} (hk : k < 10) (hg : r_termSign S = g) (hd : decode cc pc = .ok (.iastore, 1)) (kk : V p l e R s m args below meth c (Gz z) nL cells slots Q (mw z b (w_termSign S (va_up g k x))) (pc + 1) lv (sk)) : V p l e R s m args below meth c (Gz z) nL cells slots Q (mw z b S) pc lv (.int (nI x) :: .int (nI k) :: .ref (b 38) :: sk) := by
  subst hg
  exact V.iastN X 38 0 rfl rfl hk (by decide) rfl hd kk
theorem l_Mo_given (X : Cx p s m args meth c (Gz z) cc nL ret own) {k : Nat} {x : Int32} (hk : k < 3) (hx : r_given S k = x) (hd : decode cc pc = .ok (.iaload, 1)) (kk : V p l e R s m args below meth c (Gz z) nL cells slots Q (mw z b S) (pc + 1) lv (.int x :: sk)) : V p l e R s m args below meth c (Gz z) nL cells slots Q (mw z b S) pc lv (.int (nI k) :: .ref (b 39) :: sk) := by
  subst hx
  exact V.iald X 39 0 rfl rfl hk (by decide) hd kk
theorem s_Mo_given (X : Cx p s m args meth c (Gz z) cc nL ret own) {k : Nat} {x : Int32} {g : Nat → Int32} (hk : k < 3) (hg : r_given S = g) (hd : decode cc pc = .ok (.iastore, 1)) (kk : V p l e R s m args below meth c (Gz z) nL cells slots Q (mw z b (w_given S (upd g k x))) (pc + 1) lv (sk)) : V p l e R s m args below meth c (Gz z) nL cells slots Q (mw z b S) pc lv (.int x :: .int (nI k) :: .ref (b 39) :: sk) := by
  subst hg
  exact V.iast X 39 0 rfl rfl hk (by decide) rfl hd kk
end VM
