/-! ===== readers over writers ===== -/
theorem rw_around_block (S : MS) (x : Nat) : r_around (w_block S x) = r_around S := rfl
theorem rw_around_blocks (S : MS) (x : Nat) : r_around (w_blocks S x) = r_around S := rfl
theorem rw_at_home (S : MS) (x : Nat → Nat) : r_at (w_home S x) = r_at S := rfl
theorem rw_at_means (S : MS) (x : Nat → Nat) : r_at (w_means S x) = r_at S := rfl
theorem rw_at_name (S : MS) (x : Nat → Int64) : r_at (w_name S x) = r_at S := rfl
theorem rw_at_next (S : MS) (x : Nat → Nat) : r_at (w_next S x) = r_at S := rfl
theorem rw_at_procedures (S : MS) (x : Nat) : r_at (w_procedures S x) = r_at S := rfl
theorem rw_at_since (S : MS) (x : Nat → Nat) : r_at (w_since S x) = r_at S := rfl
theorem rw_at_sort (S : MS) (x : Nat → Nat) : r_at (w_sort S x) = r_at S := rfl
theorem rw_at_symbols (S : MS) (x : Nat) : r_at (w_symbols S x) = r_at S := rfl
theorem rw_at_variables (S : MS) (x : Nat) : r_at (w_variables S x) = r_at S := rfl
theorem rw_at_wants (S : MS) (x : Nat → Nat) : r_at (w_wants S x) = r_at S := rfl
theorem rw_at_within (S : MS) (x : Nat → Nat) : r_at (w_within S x) = r_at S := rfl
theorem rw_back_blockOf (S : MS) (x : Nat → Nat) : r_back (w_blockOf S x) = r_back S := rfl
theorem rw_back_failure (S : MS) (x : Nat) : r_back (w_failure S x) = r_back S := rfl
theorem rw_back_frame (S : MS) (x : Option Nat) : r_back (w_frame S x) = r_back S := rfl
theorem rw_back_greatest (S : MS) (x : Nat) : r_back (w_greatest S x) = r_back S := rfl
theorem rw_back_lost (S : MS) (x : Nat) : r_back (w_lost S x) = r_back S := rfl
theorem rw_back_outer (S : MS) (x : Nat → Option Nat) : r_back (w_outer S x) = r_back S := rfl
theorem rw_back_steps (S : MS) (x : Nat) : r_back (w_steps S x) = r_back S := rfl
theorem rw_back_thrown (S : MS) (x : Nat) : r_back (w_thrown S x) = r_back S := rfl
theorem rw_back_written (S : MS) (x : Nat) : r_back (w_written S x) = r_back S := rfl
theorem rw_block_block (S : MS) (x : Nat) : r_block (w_block S x) = x := rfl
theorem rw_block_blocks (S : MS) (x : Nat) : r_block (w_blocks S x) = r_block S := rfl
theorem rw_block_name (S : MS) (x : Nat → Int64) : r_block (w_name S x) = r_block S := rfl
theorem rw_block_sort (S : MS) (x : Nat → Nat) : r_block (w_sort S x) = r_block S := rfl
theorem rw_blockOf_failure (S : MS) (x : Nat) : r_blockOf (w_failure S x) = r_blockOf S := rfl
theorem rw_blockOf_frame (S : MS) (x : Option Nat) : r_blockOf (w_frame S x) = r_blockOf S := rfl
theorem rw_blockOf_greatest (S : MS) (x : Nat) : r_blockOf (w_greatest S x) = r_blockOf S := rfl
theorem rw_blockOf_lost (S : MS) (x : Nat) : r_blockOf (w_lost S x) = r_blockOf S := rfl
theorem rw_blockOf_steps (S : MS) (x : Nat) : r_blockOf (w_steps S x) = r_blockOf S := rfl
theorem rw_blockOf_thrown (S : MS) (x : Nat) : r_blockOf (w_thrown S x) = r_blockOf S := rfl
theorem rw_blockOf_written (S : MS) (x : Nat) : r_blockOf (w_written S x) = r_blockOf S := rfl
theorem rw_blocks_block (S : MS) (x : Nat) : r_blocks (w_block S x) = r_blocks S := rfl
theorem rw_deep_next (S : MS) (x : Nat → Nat) : r_deep (w_next S x) = r_deep S := rfl
theorem rw_deep_since (S : MS) (x : Nat → Nat) : r_deep (w_since S x) = r_deep S := rfl
theorem rw_deep_within (S : MS) (x : Nat → Nat) : r_deep (w_within S x) = r_deep S := rfl
theorem rw_doneAt_doing (S : MS) (x : Nat → Nat) : r_doneAt (w_doing S x) = r_doneAt S := rfl
theorem rw_failure_failure (S : MS) (x : Nat) : r_failure (w_failure S x) = x := rfl
theorem rw_failure_pc (S : MS) (x : Nat) : r_failure (w_pc S x) = r_failure S := rfl
theorem rw_fault_thrown (S : MS) (x : Nat) : r_fault (w_thrown S x) = r_fault S := rfl
theorem rw_frame_back (S : MS) (x : Nat → Nat) : r_frame (w_back S x) = r_frame S := rfl
theorem rw_frame_blockOf (S : MS) (x : Nat → Nat) : r_frame (w_blockOf S x) = r_frame S := rfl
theorem rw_frame_doing (S : MS) (x : Nat → Nat) : r_frame (w_doing S x) = r_frame S := rfl
theorem rw_frame_doneAt (S : MS) (x : Nat → Nat) : r_frame (w_doneAt S x) = r_frame S := rfl
theorem rw_frame_frame (S : MS) (x : Option Nat) : r_frame (w_frame S x) = x := rfl
theorem rw_frame_greatest (S : MS) (x : Nat) : r_frame (w_greatest S x) = r_frame S := rfl
theorem rw_frame_outer (S : MS) (x : Nat → Option Nat) : r_frame (w_outer S x) = r_frame S := rfl
theorem rw_frame_pc (S : MS) (x : Nat) : r_frame (w_pc S x) = r_frame S := rfl
theorem rw_given_cell (S : MS) (x : Nat → Int32) : r_given (w_cell S x) = r_given S := rfl
theorem rw_greatest_frame (S : MS) (x : Option Nat) : r_greatest (w_frame S x) = r_greatest S := rfl
theorem rw_home_name (S : MS) (x : Nat → Int64) : r_home (w_name S x) = r_home S := rfl
theorem rw_home_pSort (S : MS) (x : Nat → Nat) : r_home (w_pSort S x) = r_home S := rfl
theorem rw_home_sort (S : MS) (x : Nat → Nat) : r_home (w_sort S x) = r_home S := rfl
theorem rw_kind_at (S : MS) (x : Nat) : r_kind (w_at S x) = r_kind S := rfl
theorem rw_kind_from (S : MS) (x : Nat → Nat) : r_kind (w_from S x) = r_kind S := rfl
theorem rw_kind_to (S : MS) (x : Nat → Nat) : r_kind (w_to S x) = r_kind S := rfl
theorem rw_kind_tokens (S : MS) (x : Nat) : r_kind (w_tokens S x) = r_kind S := rfl
theorem rw_length_tokens (S : MS) (x : Nat) : r_length (w_tokens S x) = r_length S := rfl
theorem rw_level_back (S : MS) (x : Nat → Nat) : r_level (w_back S x) = r_level S := rfl
theorem rw_level_blockOf (S : MS) (x : Nat → Nat) : r_level (w_blockOf S x) = r_level S := rfl
theorem rw_level_doing (S : MS) (x : Nat → Nat) : r_level (w_doing S x) = r_level S := rfl
theorem rw_level_doneAt (S : MS) (x : Nat → Nat) : r_level (w_doneAt S x) = r_level S := rfl
theorem rw_level_failure (S : MS) (x : Nat) : r_level (w_failure S x) = r_level S := rfl
theorem rw_level_frame (S : MS) (x : Option Nat) : r_level (w_frame S x) = r_level S := rfl
theorem rw_level_greatest (S : MS) (x : Nat) : r_level (w_greatest S x) = r_level S := rfl
theorem rw_level_lost (S : MS) (x : Nat) : r_level (w_lost S x) = r_level S := rfl
theorem rw_level_outer (S : MS) (x : Nat → Option Nat) : r_level (w_outer S x) = r_level S := rfl
theorem rw_level_steps (S : MS) (x : Nat) : r_level (w_steps S x) = r_level S := rfl
theorem rw_level_thrown (S : MS) (x : Nat) : r_level (w_thrown S x) = r_level S := rfl
theorem rw_level_written (S : MS) (x : Nat) : r_level (w_written S x) = r_level S := rfl
theorem rw_means_pKind (S : MS) (x : Nat → Nat) : r_means (w_pKind S x) = r_means S := rfl
theorem rw_means_pWord (S : MS) (x : Nat → Int32) : r_means (w_pWord S x) = r_means S := rfl
theorem rw_next_pKind (S : MS) (x : Nat → Nat) : r_next (w_pKind S x) = r_next S := rfl
theorem rw_next_pMeans (S : MS) (x : Nat → Nat) : r_next (w_pMeans S x) = r_next S := rfl
theorem rw_next_pWord (S : MS) (x : Nat → Int32) : r_next (w_pWord S x) = r_next S := rfl
theorem rw_outer_blockOf (S : MS) (x : Nat → Nat) : r_outer (w_blockOf S x) = r_outer S := rfl
theorem rw_outer_failure (S : MS) (x : Nat) : r_outer (w_failure S x) = r_outer S := rfl
theorem rw_outer_frame (S : MS) (x : Option Nat) : r_outer (w_frame S x) = r_outer S := rfl
theorem rw_outer_greatest (S : MS) (x : Nat) : r_outer (w_greatest S x) = r_outer S := rfl
theorem rw_outer_lost (S : MS) (x : Nat) : r_outer (w_lost S x) = r_outer S := rfl
theorem rw_outer_steps (S : MS) (x : Nat) : r_outer (w_steps S x) = r_outer S := rfl
theorem rw_outer_thrown (S : MS) (x : Nat) : r_outer (w_thrown S x) = r_outer S := rfl
theorem rw_outer_written (S : MS) (x : Nat) : r_outer (w_written S x) = r_outer S := rfl
theorem rw_own_pHome (S : MS) (x : Nat → Nat) : r_own (w_pHome S x) = r_own S := rfl
theorem rw_own_pSort (S : MS) (x : Nat → Nat) : r_own (w_pSort S x) = r_own S := rfl
theorem rw_pHome_pSort (S : MS) (x : Nat → Nat) : r_pHome (w_pSort S x) = r_pHome S := rfl
theorem rw_pHome_pc (S : MS) (x : Nat) : r_pHome (w_pc S x) = r_pHome S := rfl
theorem rw_pKind_level (S : MS) (x : Nat → Nat) : r_pKind (w_level S x) = r_pKind S := rfl
theorem rw_pKind_pc (S : MS) (x : Nat) : r_pKind (w_pc S x) = r_pKind S := rfl
theorem rw_pKind_sum (S : MS) (x : Nat → Int32) : r_pKind (w_sum S x) = r_pKind S := rfl
theorem rw_pKind_sumSign (S : MS) (x : Nat → Nat) : r_pKind (w_sumSign S x) = r_pKind S := rfl
theorem rw_pKind_termSign (S : MS) (x : Nat → Nat) : r_pKind (w_termSign S x) = r_pKind S := rfl
theorem rw_pMeans_pKind (S : MS) (x : Nat → Nat) : r_pMeans (w_pKind S x) = r_pMeans S := rfl
theorem rw_pMeans_pWord (S : MS) (x : Nat → Int32) : r_pMeans (w_pWord S x) = r_pMeans S := rfl
theorem rw_pMeans_pc (S : MS) (x : Nat) : r_pMeans (w_pc S x) = r_pMeans S := rfl
theorem rw_pNext_level (S : MS) (x : Nat → Nat) : r_pNext (w_level S x) = r_pNext S := rfl
theorem rw_pNext_pKind (S : MS) (x : Nat → Nat) : r_pNext (w_pKind S x) = r_pNext S := rfl
theorem rw_pNext_pMeans (S : MS) (x : Nat → Nat) : r_pNext (w_pMeans S x) = r_pNext S := rfl
theorem rw_pNext_pWord (S : MS) (x : Nat → Int32) : r_pNext (w_pWord S x) = r_pNext S := rfl
theorem rw_pNext_pc (S : MS) (x : Nat) : r_pNext (w_pc S x) = r_pNext S := rfl
theorem rw_pOwn_frame (S : MS) (x : Option Nat) : r_pOwn (w_frame S x) = r_pOwn S := rfl
theorem rw_pOwn_greatest (S : MS) (x : Nat) : r_pOwn (w_greatest S x) = r_pOwn S := rfl
theorem rw_pOwn_pHome (S : MS) (x : Nat → Nat) : r_pOwn (w_pHome S x) = r_pOwn S := rfl
theorem rw_pOwn_pSort (S : MS) (x : Nat → Nat) : r_pOwn (w_pSort S x) = r_pOwn S := rfl
theorem rw_pSort_pc (S : MS) (x : Nat) : r_pSort (w_pc S x) = r_pSort S := rfl
theorem rw_pWants_pHome (S : MS) (x : Nat → Nat) : r_pWants (w_pHome S x) = r_pWants S := rfl
theorem rw_pWants_pOwn (S : MS) (x : Nat → Nat) : r_pWants (w_pOwn S x) = r_pWants S := rfl
theorem rw_pWants_pSort (S : MS) (x : Nat → Nat) : r_pWants (w_pSort S x) = r_pWants S := rfl
theorem rw_pWord_pKind (S : MS) (x : Nat → Nat) : r_pWord (w_pKind S x) = r_pWord S := rfl
theorem rw_pc_blockOf (S : MS) (x : Nat → Nat) : r_pc (w_blockOf S x) = r_pc S := rfl
theorem rw_pc_frame (S : MS) (x : Option Nat) : r_pc (w_frame S x) = r_pc S := rfl
theorem rw_pc_given (S : MS) (x : Nat → Int32) : r_pc (w_given S x) = r_pc S := rfl
theorem rw_pc_greatest (S : MS) (x : Nat) : r_pc (w_greatest S x) = r_pc S := rfl
theorem rw_pc_level (S : MS) (x : Nat → Nat) : r_pc (w_level S x) = r_pc S := rfl
theorem rw_pc_outer (S : MS) (x : Nat → Option Nat) : r_pc (w_outer S x) = r_pc S := rfl
theorem rw_pc_pc (S : MS) (x : Nat) : r_pc (w_pc S x) = x := rfl
theorem rw_pc_sum (S : MS) (x : Nat → Int32) : r_pc (w_sum S x) = r_pc S := rfl
theorem rw_pc_sumSign (S : MS) (x : Nat → Nat) : r_pc (w_sumSign S x) = r_pc S := rfl
theorem rw_pc_termSign (S : MS) (x : Nat → Nat) : r_pc (w_termSign S x) = r_pc S := rfl
theorem rw_procedures_home (S : MS) (x : Nat → Nat) : r_procedures (w_home S x) = r_procedures S := rfl
theorem rw_procedures_name (S : MS) (x : Nat → Int64) : r_procedures (w_name S x) = r_procedures S := rfl
theorem rw_procedures_sort (S : MS) (x : Nat → Nat) : r_procedures (w_sort S x) = r_procedures S := rfl
theorem rw_procedures_wants (S : MS) (x : Nat → Nat) : r_procedures (w_wants S x) = r_procedures S := rfl
theorem rw_program_thrown (S : MS) (x : Nat) : r_program (w_thrown S x) = r_program S := rfl
theorem rw_since_next (S : MS) (x : Nat → Nat) : r_since (w_next S x) = r_since S := rfl
theorem rw_since_within (S : MS) (x : Nat → Nat) : r_since (w_within S x) = r_since S := rfl
theorem rw_sort_name (S : MS) (x : Nat → Int64) : r_sort (w_name S x) = r_sort S := rfl
theorem rw_stands_cell (S : MS) (x : Nat → Int32) : r_stands (w_cell S x) = r_stands S := rfl
theorem rw_sum_pc (S : MS) (x : Nat) : r_sum (w_pc S x) = r_sum S := rfl
theorem rw_sumSign_sum (S : MS) (x : Nat → Int32) : r_sumSign (w_sum S x) = r_sumSign S := rfl
theorem rw_symbols_home (S : MS) (x : Nat → Nat) : r_symbols (w_home S x) = r_symbols S := rfl
theorem rw_symbols_name (S : MS) (x : Nat → Int64) : r_symbols (w_name S x) = r_symbols S := rfl
theorem rw_symbols_procedures (S : MS) (x : Nat) : r_symbols (w_procedures S x) = r_symbols S := rfl
theorem rw_symbols_sort (S : MS) (x : Nat → Nat) : r_symbols (w_sort S x) = r_symbols S := rfl
theorem rw_symbols_variables (S : MS) (x : Nat) : r_symbols (w_variables S x) = r_symbols S := rfl
theorem rw_symbols_wants (S : MS) (x : Nat → Nat) : r_symbols (w_wants S x) = r_symbols S := rfl
theorem rw_termSign_sum (S : MS) (x : Nat → Int32) : r_termSign (w_sum S x) = r_termSign S := rfl
theorem rw_termSign_sumSign (S : MS) (x : Nat → Nat) : r_termSign (w_sumSign S x) = r_termSign S := rfl
theorem rw_termSign_term (S : MS) (x : Nat → Int32) : r_termSign (w_term S x) = r_termSign S := rfl
theorem rw_to_from (S : MS) (x : Nat → Nat) : r_to (w_from S x) = r_to S := rfl
theorem rw_to_kind (S : MS) (x : Nat → Nat) : r_to (w_kind S x) = r_to S := rfl
theorem rw_to_tokens (S : MS) (x : Nat) : r_to (w_tokens S x) = r_to S := rfl
theorem rw_to_word (S : MS) (x : Nat → Int64) : r_to (w_word S x) = r_to S := rfl
theorem rw_variables_home (S : MS) (x : Nat → Nat) : r_variables (w_home S x) = r_variables S := rfl
theorem rw_variables_name (S : MS) (x : Nat → Int64) : r_variables (w_name S x) = r_variables S := rfl
theorem rw_variables_sort (S : MS) (x : Nat → Nat) : r_variables (w_sort S x) = r_variables S := rfl
theorem rw_variables_wants (S : MS) (x : Nat → Nat) : r_variables (w_wants S x) = r_variables S := rfl
theorem rw_wants_home (S : MS) (x : Nat → Nat) : r_wants (w_home S x) = r_wants S := rfl
theorem rw_wants_name (S : MS) (x : Nat → Int64) : r_wants (w_name S x) = r_wants S := rfl
theorem rw_wants_pHome (S : MS) (x : Nat → Nat) : r_wants (w_pHome S x) = r_wants S := rfl
theorem rw_wants_pOwn (S : MS) (x : Nat → Nat) : r_wants (w_pOwn S x) = r_wants S := rfl
theorem rw_wants_pSort (S : MS) (x : Nat → Nat) : r_wants (w_pSort S x) = r_wants S := rfl
theorem rw_wants_sort (S : MS) (x : Nat → Nat) : r_wants (w_sort S x) = r_wants S := rfl
theorem rw_within_next (S : MS) (x : Nat → Nat) : r_within (w_next S x) = r_within S := rfl
theorem rw_word_kind (S : MS) (x : Nat → Nat) : r_word (w_kind S x) = r_word S := rfl
theorem rw_word_pKind (S : MS) (x : Nat → Nat) : r_word (w_pKind S x) = r_word S := rfl
theorem rw_written_output (S : MS) (x : Nat → Int32) : r_written (w_output S x) = r_written S := rfl
