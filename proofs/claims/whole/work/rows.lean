section
/-! ===== the methods: code and name ===== -/
abbrev b_PM_init : ByteArray := prog_1_method_1_code
abbrev y_PM_init : MethodName := ⟨"PascalMachine", "<init>", "()V"⟩
abbrev b_PM_append : ByteArray := prog_1_method_2_code
abbrev y_PM_append : MethodName := ⟨"PascalMachine", "append", "(JI)I"⟩
abbrev b_PM_cut : ByteArray := prog_1_method_3_code
abbrev y_PM_cut : MethodName := ⟨"PascalMachine", "cut", "(I)I"⟩
abbrev b_PM_compile : ByteArray := prog_1_method_4_code
abbrev y_PM_compile : MethodName := ⟨"PascalMachine", "compile", "()I"⟩
abbrev b_PM_fault : ByteArray := prog_1_method_5_code
abbrev y_PM_fault : MethodName := ⟨"PascalMachine", "fault", "()I"⟩
abbrev b_PM_run : ByteArray := prog_1_method_6_code
abbrev y_PM_run : MethodName := ⟨"PascalMachine", "run", "()I"⟩
abbrev b_PM_output : ByteArray := prog_1_method_7_code
abbrev y_PM_output : MethodName := ⟨"PascalMachine", "output", "(I)I"⟩
abbrev b_PM_count : ByteArray := prog_1_method_8_code
abbrev y_PM_count : MethodName := ⟨"PascalMachine", "count", "(I)I"⟩
abbrev b_PM_hasOnlyCodes : ByteArray := prog_1_method_9_code
abbrev y_PM_hasOnlyCodes : MethodName := ⟨"PascalMachine", "hasOnlyCodes", "(JI)Z"⟩
abbrev b_PM_byteAt : ByteArray := prog_1_method_10_code
abbrev y_PM_byteAt : MethodName := ⟨"PascalMachine", "byteAt", "(JI)I"⟩
abbrev b_Mo_init : ByteArray := prog_10_method_1_code
abbrev y_Mo_init : MethodName := ⟨"PascalMachineModel", "<init>", "()V"⟩
abbrev b_Mo_thrown : ByteArray := prog_10_method_2_code
abbrev y_Mo_thrown : MethodName := ⟨"PascalMachineModel", "thrown", "()I"⟩
abbrev b_Mo_raise : ByteArray := prog_10_method_3_code
abbrev y_Mo_raise : MethodName := ⟨"PascalMachineModel", "raise", "(I)I"⟩
abbrev b_Mo_append : ByteArray := prog_10_method_4_code
abbrev y_Mo_append : MethodName := ⟨"PascalMachineModel", "append", "(JI)I"⟩
abbrev b_Mo_cut : ByteArray := prog_10_method_5_code
abbrev y_Mo_cut : MethodName := ⟨"PascalMachineModel", "cut", "(I)I"⟩
abbrev b_Mo_letter : ByteArray := prog_10_method_6_code
abbrev y_Mo_letter : MethodName := ⟨"PascalMachineModel", "letter", "(I)Z"⟩
abbrev b_Mo_digit : ByteArray := prog_10_method_7_code
abbrev y_Mo_digit : MethodName := ⟨"PascalMachineModel", "digit", "(I)Z"⟩
abbrev b_Mo_wordKind : ByteArray := prog_10_method_8_code
abbrev y_Mo_wordKind : MethodName := ⟨"PascalMachineModel", "wordKind", "(J)I"⟩
abbrev b_Mo_sign : ByteArray := prog_10_method_9_code
abbrev y_Mo_sign : MethodName := ⟨"PascalMachineModel", "sign", "(I)Z"⟩
abbrev b_Mo_cutWord : ByteArray := prog_10_method_10_code
abbrev y_Mo_cutWord : MethodName := ⟨"PascalMachineModel", "cutWord", "(I)V"⟩
abbrev b_Mo_cutAll : ByteArray := prog_10_method_11_code
abbrev y_Mo_cutAll : MethodName := ⟨"PascalMachineModel", "cutAll", "()V"⟩
abbrev b_Mo_blame : ByteArray := prog_10_method_12_code
abbrev y_Mo_blame : MethodName := ⟨"PascalMachineModel", "blame", "(I)V"⟩
abbrev b_Mo_take : ByteArray := prog_10_method_13_code
abbrev y_Mo_take : MethodName := ⟨"PascalMachineModel", "take", "(I)Z"⟩
abbrev b_Mo_need : ByteArray := prog_10_method_14_code
abbrev y_Mo_need : MethodName := ⟨"PascalMachineModel", "need", "(I)V"⟩
abbrev b_Mo_declare : ByteArray := prog_10_method_15_code
abbrev y_Mo_declare : MethodName := ⟨"PascalMachineModel", "declare", "(I)V"⟩
abbrev b_Mo_find : ByteArray := prog_10_method_16_code
abbrev y_Mo_find : MethodName := ⟨"PascalMachineModel", "find", "(I)I"⟩
abbrev b_Mo_blockDepth : ByteArray := prog_10_method_17_code
abbrev y_Mo_blockDepth : MethodName := ⟨"PascalMachineModel", "blockDepth", "()I"⟩
abbrev b_Mo_enter : ByteArray := prog_10_method_18_code
abbrev y_Mo_enter : MethodName := ⟨"PascalMachineModel", "enter", "(I)V"⟩
abbrev b_Mo_parameter : ByteArray := prog_10_method_19_code
abbrev y_Mo_parameter : MethodName := ⟨"PascalMachineModel", "parameter", "(I)V"⟩
abbrev b_Mo_procedure : ByteArray := prog_10_method_20_code
abbrev y_Mo_procedure : MethodName := ⟨"PascalMachineModel", "procedure", "()V"⟩
abbrev b_Mo_beginBlock : ByteArray := prog_10_method_21_code
abbrev y_Mo_beginBlock : MethodName := ⟨"PascalMachineModel", "beginBlock", "()V"⟩
abbrev b_Mo_factor : ByteArray := prog_10_method_22_code
abbrev y_Mo_factor : MethodName := ⟨"PascalMachineModel", "factor", "()V"⟩
abbrev b_Mo_operator : ByteArray := prog_10_method_23_code
abbrev y_Mo_operator : MethodName := ⟨"PascalMachineModel", "operator", "(I)Z"⟩
abbrev b_Mo_expression : ByteArray := prog_10_method_24_code
abbrev y_Mo_expression : MethodName := ⟨"PascalMachineModel", "expression", "()V"⟩
abbrev b_Mo_condition : ByteArray := prog_10_method_25_code
abbrev y_Mo_condition : MethodName := ⟨"PascalMachineModel", "condition", "()V"⟩
abbrev b_Mo_argument : ByteArray := prog_10_method_26_code
abbrev y_Mo_argument : MethodName := ⟨"PascalMachineModel", "argument", "(II)V"⟩
abbrev b_Mo_parameterOf : ByteArray := prog_10_method_27_code
abbrev y_Mo_parameterOf : MethodName := ⟨"PascalMachineModel", "parameterOf", "(II)I"⟩
abbrev b_Mo_call : ByteArray := prog_10_method_28_code
abbrev y_Mo_call : MethodName := ⟨"PascalMachineModel", "call", "(II)V"⟩
abbrev b_Mo_deeper : ByteArray := prog_10_method_29_code
abbrev y_Mo_deeper : MethodName := ⟨"PascalMachineModel", "deeper", "(II)V"⟩
abbrev b_Mo_beginStatement : ByteArray := prog_10_method_30_code
abbrev y_Mo_beginStatement : MethodName := ⟨"PascalMachineModel", "beginStatement", "()Z"⟩
abbrev b_Mo_behindStatement : ByteArray := prog_10_method_31_code
abbrev y_Mo_behindStatement : MethodName := ⟨"PascalMachineModel", "behindStatement", "()Z"⟩
abbrev b_Mo_statements : ByteArray := prog_10_method_32_code
abbrev y_Mo_statements : MethodName := ⟨"PascalMachineModel", "statements", "()V"⟩
abbrev b_Mo_readProgram : ByteArray := prog_10_method_33_code
abbrev y_Mo_readProgram : MethodName := ⟨"PascalMachineModel", "readProgram", "()V"⟩
abbrev b_Mo_compile : ByteArray := prog_10_method_34_code
abbrev y_Mo_compile : MethodName := ⟨"PascalMachineModel", "compile", "()I"⟩
abbrev b_Mo_fault : ByteArray := prog_10_method_35_code
abbrev y_Mo_fault : MethodName := ⟨"PascalMachineModel", "fault", "()I"⟩
abbrev b_Mo_runOf : ByteArray := prog_10_method_36_code
abbrev y_Mo_runOf : MethodName := ⟨"PascalMachineModel", "runOf", "(I)I"⟩
abbrev b_Mo_place : ByteArray := prog_10_method_37_code
abbrev y_Mo_place : MethodName := ⟨"PascalMachineModel", "place", "(I)I"⟩
abbrev b_Mo_slot : ByteArray := prog_10_method_38_code
abbrev y_Mo_slot : MethodName := ⟨"PascalMachineModel", "slot", "(I)I"⟩
abbrev b_Mo_multiply : ByteArray := prog_10_method_39_code
abbrev y_Mo_multiply : MethodName := ⟨"PascalMachineModel", "multiply", "(II)V"⟩
abbrev b_Mo_add : ByteArray := prog_10_method_40_code
abbrev y_Mo_add : MethodName := ⟨"PascalMachineModel", "add", "(I)V"⟩
abbrev b_Mo_openSum : ByteArray := prog_10_method_41_code
abbrev y_Mo_openSum : MethodName := ⟨"PascalMachineModel", "openSum", "(I)V"⟩
abbrev b_Mo_evaluate : ByteArray := prog_10_method_42_code
abbrev y_Mo_evaluate : MethodName := ⟨"PascalMachineModel", "evaluate", "()I"⟩
abbrev b_Mo_step : ByteArray := prog_10_method_43_code
abbrev y_Mo_step : MethodName := ⟨"PascalMachineModel", "step", "()V"⟩
abbrev b_Mo_push : ByteArray := prog_10_method_44_code
abbrev y_Mo_push : MethodName := ⟨"PascalMachineModel", "push", "(II)V"⟩
abbrev b_Mo_holds : ByteArray := prog_10_method_45_code
abbrev y_Mo_holds : MethodName := ⟨"PascalMachineModel", "holds", "()Z"⟩
abbrev b_Mo_enterCall : ByteArray := prog_10_method_46_code
abbrev y_Mo_enterCall : MethodName := ⟨"PascalMachineModel", "enterCall", "(I)V"⟩
abbrev b_Mo_write : ByteArray := prog_10_method_47_code
abbrev y_Mo_write : MethodName := ⟨"PascalMachineModel", "write", "(I)V"⟩
abbrev b_Mo_test : ByteArray := prog_10_method_48_code
abbrev y_Mo_test : MethodName := ⟨"PascalMachineModel", "test", "(I)V"⟩
abbrev b_Mo_over : ByteArray := prog_10_method_49_code
abbrev y_Mo_over : MethodName := ⟨"PascalMachineModel", "over", "()V"⟩
abbrev b_Mo_statement : ByteArray := prog_10_method_50_code
abbrev y_Mo_statement : MethodName := ⟨"PascalMachineModel", "statement", "()V"⟩
abbrev b_Mo_run : ByteArray := prog_10_method_51_code
abbrev y_Mo_run : MethodName := ⟨"PascalMachineModel", "run", "()I"⟩
abbrev b_Mo_output : ByteArray := prog_10_method_52_code
abbrev y_Mo_output : MethodName := ⟨"PascalMachineModel", "output", "(I)I"⟩
abbrev b_Mo_count : ByteArray := prog_10_method_53_code
abbrev y_Mo_count : MethodName := ⟨"PascalMachineModel", "count", "(I)I"⟩
abbrev b_Co_init : ByteArray := prog_3_method_1_code
abbrev y_Co_init : MethodName := ⟨"PascalMachine$Code", "<init>", "()V"⟩
abbrev b_Co_add : ByteArray := prog_3_method_2_code
abbrev y_Co_add : MethodName := ⟨"PascalMachine$Code", "add", "(III)I"⟩
abbrev b_Co_isReference : ByteArray := prog_3_method_3_code
abbrev y_Co_isReference : MethodName := ⟨"PascalMachine$Code", "isReference", "(II)Z"⟩
abbrev b_Co_jumpToEnd : ByteArray := prog_3_method_4_code
abbrev y_Co_jumpToEnd : MethodName := ⟨"PascalMachine$Code", "jumpToEnd", "(I)V"⟩
abbrev b_Co_takeAddress : ByteArray := prog_3_method_5_code
abbrev y_Co_takeAddress : MethodName := ⟨"PascalMachine$Code", "takeAddress", "(I)V"⟩
abbrev b_Cp_init : ByteArray := prog_4_method_1_code
abbrev y_Cp_init : MethodName := ⟨"PascalMachine$Compiler", "<init>", "()V"⟩
abbrev b_Cp_translate : ByteArray := prog_4_method_2_code
abbrev y_Cp_translate : MethodName := ⟨"PascalMachine$Compiler", "translate", "([CI)I"⟩
abbrev b_Cp_refuse : ByteArray := prog_4_method_3_code
abbrev y_Cp_refuse : MethodName := ⟨"PascalMachine$Compiler", "refuse", "(I)V"⟩
abbrev b_Cp_expect : ByteArray := prog_4_method_4_code
abbrev y_Cp_expect : MethodName := ⟨"PascalMachine$Compiler", "expect", "(LPascalMachine$Kind;)V"⟩
abbrev b_Cp_declareName : ByteArray := prog_4_method_5_code
abbrev y_Cp_declareName : MethodName := ⟨"PascalMachine$Compiler", "declareName", "(I)V"⟩
abbrev b_Cp_block : ByteArray := prog_4_method_6_code
abbrev y_Cp_block : MethodName := ⟨"PascalMachine$Compiler", "block", "(I)I"⟩
abbrev b_Cp_variables : ByteArray := prog_4_method_7_code
abbrev y_Cp_variables : MethodName := ⟨"PascalMachine$Compiler", "variables", "()V"⟩
abbrev b_Cp_procedure : ByteArray := prog_4_method_8_code
abbrev y_Cp_procedure : MethodName := ⟨"PascalMachine$Compiler", "procedure", "(I)V"⟩
abbrev b_Cp_parameters : ByteArray := prog_4_method_9_code
abbrev y_Cp_parameters : MethodName := ⟨"PascalMachine$Compiler", "parameters", "(I)V"⟩
abbrev b_Cp_parameter : ByteArray := prog_4_method_10_code
abbrev y_Cp_parameter : MethodName := ⟨"PascalMachine$Compiler", "parameter", "(I)V"⟩
abbrev b_Cp_statements : ByteArray := prog_4_method_11_code
abbrev y_Cp_statements : MethodName := ⟨"PascalMachine$Compiler", "statements", "(I)V"⟩
abbrev b_Cp_statement : ByteArray := prog_4_method_12_code
abbrev y_Cp_statement : MethodName := ⟨"PascalMachine$Compiler", "statement", "(I)V"⟩
abbrev b_Cp_goDeeper : ByteArray := prog_4_method_13_code
abbrev y_Cp_goDeeper : MethodName := ⟨"PascalMachine$Compiler", "goDeeper", "(I)V"⟩
abbrev b_Cp_assignment : ByteArray := prog_4_method_14_code
abbrev y_Cp_assignment : MethodName := ⟨"PascalMachine$Compiler", "assignment", "()V"⟩
abbrev b_Cp_procedureCall : ByteArray := prog_4_method_15_code
abbrev y_Cp_procedureCall : MethodName := ⟨"PascalMachine$Compiler", "procedureCall", "()V"⟩
abbrev b_Cp_arguments : ByteArray := prog_4_method_16_code
abbrev y_Cp_arguments : MethodName := ⟨"PascalMachine$Compiler", "arguments", "(I)I"⟩
abbrev b_Cp_ifStatement : ByteArray := prog_4_method_17_code
abbrev y_Cp_ifStatement : MethodName := ⟨"PascalMachine$Compiler", "ifStatement", "(I)V"⟩
abbrev b_Cp_whileStatement : ByteArray := prog_4_method_18_code
abbrev y_Cp_whileStatement : MethodName := ⟨"PascalMachine$Compiler", "whileStatement", "(I)V"⟩
abbrev b_Cp_writeStatement : ByteArray := prog_4_method_19_code
abbrev y_Cp_writeStatement : MethodName := ⟨"PascalMachine$Compiler", "writeStatement", "()V"⟩
abbrev b_Cp_condition : ByteArray := prog_4_method_20_code
abbrev y_Cp_condition : MethodName := ⟨"PascalMachine$Compiler", "condition", "()I"⟩
abbrev b_Cp_comparison : ByteArray := prog_4_method_21_code
abbrev y_Cp_comparison : MethodName := ⟨"PascalMachine$Compiler", "comparison", "()I"⟩
abbrev b_Cp_expression : ByteArray := prog_4_method_22_code
abbrev y_Cp_expression : MethodName := ⟨"PascalMachine$Compiler", "expression", "(I)V"⟩
abbrev b_Cp_term : ByteArray := prog_4_method_23_code
abbrev y_Cp_term : MethodName := ⟨"PascalMachine$Compiler", "term", "(I)V"⟩
abbrev b_Cp_multiplication : ByteArray := prog_4_method_24_code
abbrev y_Cp_multiplication : MethodName := ⟨"PascalMachine$Compiler", "multiplication", "()I"⟩
abbrev b_Cp_factor : ByteArray := prog_4_method_25_code
abbrev y_Cp_factor : MethodName := ⟨"PascalMachine$Compiler", "factor", "(I)V"⟩
abbrev b_Cp_variable : ByteArray := prog_4_method_26_code
abbrev y_Cp_variable : MethodName := ⟨"PascalMachine$Compiler", "variable", "()V"⟩
abbrev b_Mc_init : ByteArray := prog_6_method_1_code
abbrev y_Mc_init : MethodName := ⟨"PascalMachine$Machine", "<init>", "()V"⟩
abbrev b_Mc_execute : ByteArray := prog_6_method_2_code
abbrev y_Mc_execute : MethodName := ⟨"PascalMachine$Machine", "execute", "()V"⟩
abbrev b_Mc_begin : ByteArray := prog_6_method_3_code
abbrev y_Mc_begin : MethodName := ⟨"PascalMachine$Machine", "begin", "()V"⟩
abbrev b_Mc_clearFrame : ByteArray := prog_6_method_4_code
abbrev y_Mc_clearFrame : MethodName := ⟨"PascalMachine$Machine", "clearFrame", "()V"⟩
abbrev b_Mc_perform : ByteArray := prog_6_method_5_code
abbrev y_Mc_perform : MethodName := ⟨"PascalMachine$Machine", "perform", "(III)V"⟩
abbrev b_Mc_takeStep : ByteArray := prog_6_method_6_code
abbrev y_Mc_takeStep : MethodName := ⟨"PascalMachine$Machine", "takeStep", "()V"⟩
abbrev b_Mc_combine : ByteArray := prog_6_method_7_code
abbrev y_Mc_combine : MethodName := ⟨"PascalMachine$Machine", "combine", "(I)V"⟩
abbrev b_Mc_isTrue : ByteArray := prog_6_method_8_code
abbrev y_Mc_isTrue : MethodName := ⟨"PascalMachine$Machine", "isTrue", "(III)Z"⟩
abbrev b_Mc_calculate : ByteArray := prog_6_method_9_code
abbrev y_Mc_calculate : MethodName := ⟨"PascalMachine$Machine", "calculate", "(III)I"⟩
abbrev b_Mc_divide : ByteArray := prog_6_method_10_code
abbrev y_Mc_divide : MethodName := ⟨"PascalMachine$Machine", "divide", "(ZII)I"⟩
abbrev b_Mc_enter : ByteArray := prog_6_method_11_code
abbrev y_Mc_enter : MethodName := ⟨"PascalMachine$Machine", "enter", "(II)V"⟩
abbrev b_Mc_leave : ByteArray := prog_6_method_12_code
abbrev y_Mc_leave : MethodName := ⟨"PascalMachine$Machine", "leave", "()V"⟩
abbrev b_Mc_put : ByteArray := prog_6_method_13_code
abbrev y_Mc_put : MethodName := ⟨"PascalMachine$Machine", "put", "(I)V"⟩
abbrev b_Mc_frameOutward : ByteArray := prog_6_method_14_code
abbrev y_Mc_frameOutward : MethodName := ⟨"PascalMachine$Machine", "frameOutward", "(I)I"⟩
abbrev b_Mc_address : ByteArray := prog_6_method_15_code
abbrev y_Mc_address : MethodName := ⟨"PascalMachine$Machine", "address", "(II)I"⟩
abbrev b_Mc_load : ByteArray := prog_6_method_16_code
abbrev y_Mc_load : MethodName := ⟨"PascalMachine$Machine", "load", "(I)I"⟩
abbrev b_Mc_store : ByteArray := prog_6_method_17_code
abbrev y_Mc_store : MethodName := ⟨"PascalMachine$Machine", "store", "(II)V"⟩
abbrev b_Mc_push : ByteArray := prog_6_method_18_code
abbrev y_Mc_push : MethodName := ⟨"PascalMachine$Machine", "push", "(I)V"⟩
abbrev b_Mc_pop : ByteArray := prog_6_method_19_code
abbrev y_Mc_pop : MethodName := ⟨"PascalMachine$Machine", "pop", "()I"⟩
abbrev b_Nm_init : ByteArray := prog_7_method_1_code
abbrev y_Nm_init : MethodName := ⟨"PascalMachine$Names", "<init>", "()V"⟩
abbrev b_Nm_clear : ByteArray := prog_7_method_2_code
abbrev y_Nm_clear : MethodName := ⟨"PascalMachine$Names", "clear", "()V"⟩
abbrev b_Nm_declared : ByteArray := prog_7_method_3_code
abbrev y_Nm_declared : MethodName := ⟨"PascalMachine$Names", "declared", "()I"⟩
abbrev b_Nm_open : ByteArray := prog_7_method_4_code
abbrev y_Nm_open : MethodName := ⟨"PascalMachine$Names", "open", "()V"⟩
abbrev b_Nm_close : ByteArray := prog_7_method_5_code
abbrev y_Nm_close : MethodName := ⟨"PascalMachine$Names", "close", "()V"⟩
abbrev b_Nm_declare : ByteArray := prog_7_method_6_code
abbrev y_Nm_declare : MethodName := ⟨"PascalMachine$Names", "declare", "(JI)Z"⟩
abbrev b_Nm_isFull : ByteArray := prog_7_method_7_code
abbrev y_Nm_isFull : MethodName := ⟨"PascalMachine$Names", "isFull", "(I)Z"⟩
abbrev b_Nm_find : ByteArray := prog_7_method_8_code
abbrev y_Nm_find : MethodName := ⟨"PascalMachine$Names", "find", "(J)I"⟩
abbrev b_Nm_isProcedure : ByteArray := prog_7_method_9_code
abbrev y_Nm_isProcedure : MethodName := ⟨"PascalMachine$Names", "isProcedure", "(I)Z"⟩
abbrev b_Nm_isReference : ByteArray := prog_7_method_10_code
abbrev y_Nm_isReference : MethodName := ⟨"PascalMachine$Names", "isReference", "(I)Z"⟩
abbrev b_Nm_hops : ByteArray := prog_7_method_11_code
abbrev y_Nm_hops : MethodName := ⟨"PascalMachine$Names", "hops", "(I)I"⟩
abbrev b_Nm_number : ByteArray := prog_7_method_12_code
abbrev y_Nm_number : MethodName := ⟨"PascalMachine$Names", "number", "(I)I"⟩
abbrev b_Nm_lastProcedure : ByteArray := prog_7_method_13_code
abbrev y_Nm_lastProcedure : MethodName := ⟨"PascalMachine$Names", "lastProcedure", "()I"⟩
abbrev b_Tk_init : ByteArray := prog_8_method_1_code
abbrev y_Tk_init : MethodName := ⟨"PascalMachine$Tokens", "<init>", "()V"⟩
abbrev b_Tk_read : ByteArray := prog_8_method_2_code
abbrev y_Tk_read : MethodName := ⟨"PascalMachine$Tokens", "read", "([CI)V"⟩
abbrev b_Tk_readToken : ByteArray := prog_8_method_3_code
abbrev y_Tk_readToken : MethodName := ⟨"PascalMachine$Tokens", "readToken", "(I)LPascalMachine$Kind;"⟩
abbrev b_Tk_behindBlanks : ByteArray := prog_8_method_4_code
abbrev y_Tk_behindBlanks : MethodName := ⟨"PascalMachine$Tokens", "behindBlanks", "()I"⟩
abbrev b_Tk_readWord : ByteArray := prog_8_method_5_code
abbrev y_Tk_readWord : MethodName := ⟨"PascalMachine$Tokens", "readWord", "(II)LPascalMachine$Kind;"⟩
abbrev b_Tk_readNumber : ByteArray := prog_8_method_6_code
abbrev y_Tk_readNumber : MethodName := ⟨"PascalMachine$Tokens", "readNumber", "(II)LPascalMachine$Kind;"⟩
abbrev b_Tk_readSign : ByteArray := prog_8_method_7_code
abbrev y_Tk_readSign : MethodName := ⟨"PascalMachine$Tokens", "readSign", "(I)LPascalMachine$Kind;"⟩
abbrev b_Tk_kindSpelled : ByteArray := prog_8_method_8_code
abbrev y_Tk_kindSpelled : MethodName := ⟨"PascalMachine$Tokens", "kindSpelled", "(ILPascalMachine$Kind;)LPascalMachine$Kind;"⟩
abbrev b_Tk_isSpelled : ByteArray := prog_8_method_9_code
abbrev y_Tk_isSpelled : MethodName := ⟨"PascalMachine$Tokens", "isSpelled", "(ILjava/lang/String;)Z"⟩
abbrev b_Tk_isLetter : ByteArray := prog_8_method_10_code
abbrev y_Tk_isLetter : MethodName := ⟨"PascalMachine$Tokens", "isLetter", "(C)Z"⟩
abbrev b_Tk_isDigit : ByteArray := prog_8_method_11_code
abbrev y_Tk_isDigit : MethodName := ⟨"PascalMachine$Tokens", "isDigit", "(C)Z"⟩
abbrev b_Tk_kind : ByteArray := prog_8_method_12_code
abbrev y_Tk_kind : MethodName := ⟨"PascalMachine$Tokens", "kind", "()LPascalMachine$Kind;"⟩
abbrev b_Tk_place : ByteArray := prog_8_method_13_code
abbrev y_Tk_place : MethodName := ⟨"PascalMachine$Tokens", "place", "()I"⟩
abbrev b_Tk_content : ByteArray := prog_8_method_14_code
abbrev y_Tk_content : MethodName := ⟨"PascalMachine$Tokens", "content", "()J"⟩
abbrev b_Tk_isBefore : ByteArray := prog_8_method_15_code
abbrev y_Tk_isBefore : MethodName := ⟨"PascalMachine$Tokens", "isBefore", "(LPascalMachine$Kind;)Z"⟩
abbrev b_Tk_advance : ByteArray := prog_8_method_16_code
abbrev y_Tk_advance : MethodName := ⟨"PascalMachine$Tokens", "advance", "()V"⟩
abbrev b_Tk_accept : ByteArray := prog_8_method_17_code
abbrev y_Tk_accept : MethodName := ⟨"PascalMachine$Tokens", "accept", "(LPascalMachine$Kind;)Z"⟩
abbrev b_JS_length : ByteArray := prog_19_method_54_code
abbrev y_JS_length : MethodName := ⟨"java/lang/String", "length", "()I"⟩
abbrev b_JS_coder : ByteArray := prog_19_method_152_code
abbrev y_JS_coder : MethodName := ⟨"java/lang/String", "coder", "()B"⟩
abbrev b_JS_charAt : ByteArray := prog_19_method_56_code
abbrev y_JS_charAt : MethodName := ⟨"java/lang/String", "charAt", "(I)C"⟩
abbrev b_JS_isLatin1 : ByteArray := prog_19_method_154_code
abbrev y_JS_isLatin1 : MethodName := ⟨"java/lang/String", "isLatin1", "()Z"⟩
abbrev b_JL_charAt : ByteArray := prog_20_method_2_code
abbrev y_JL_charAt : MethodName := ⟨"java/lang/StringLatin1", "charAt", "([BI)C"⟩
abbrev b_JS_checkIndex : ByteArray := prog_19_method_155_code
abbrev y_JS_checkIndex : MethodName := ⟨"java/lang/String", "checkIndex", "(II)V"⟩
abbrev b_JM_min : ByteArray := prog_17_method_69_code
abbrev y_JM_min : MethodName := ⟨"java/lang/Math", "min", "(II)I"⟩
abbrev b_JM_max : ByteArray := prog_17_method_65_code
abbrev y_JM_max : MethodName := ⟨"java/lang/Math", "max", "(II)I"⟩
abbrev b_JE_ordinal : ByteArray := prog_12_method_2_code
abbrev y_JE_ordinal : MethodName := ⟨"java/lang/Enum", "ordinal", "()I"⟩
abbrev b_JP_checkIndex : ByteArray := prog_24_method_11_code
abbrev y_JP_checkIndex : MethodName := ⟨"jdk/internal/util/Preconditions", "checkIndex", "(IILjava/util/function/BiFunction;)I"⟩
end
section
theorem d_Co_init_0 : decode b_Co_init 0 = .ok (.aload_n 0, 1) := by decide +kernel
theorem d_Co_init_1 : decode b_Co_init 1 = .ok (.invokespecial 3, 3) := by decide +kernel
theorem d_Co_init_4 : decode b_Co_init 4 = .ok (.aload_n 0, 1) := by decide +kernel
theorem d_Co_init_5 : decode b_Co_init 5 = .ok (.sipush 300, 3) := by decide +kernel
theorem d_Co_init_8 : decode b_Co_init 8 = .ok (.newarray .int, 2) := by decide +kernel
theorem d_Co_init_10 : decode b_Co_init 10 = .ok (.putfield 11, 3) := by decide +kernel
theorem d_Co_init_13 : decode b_Co_init 13 = .ok (.aload_n 0, 1) := by decide +kernel
theorem d_Co_init_14 : decode b_Co_init 14 = .ok (.sipush 300, 3) := by decide +kernel
theorem d_Co_init_17 : decode b_Co_init 17 = .ok (.newarray .int, 2) := by decide +kernel
theorem d_Co_init_19 : decode b_Co_init 19 = .ok (.putfield 15, 3) := by decide +kernel
theorem d_Co_init_22 : decode b_Co_init 22 = .ok (.aload_n 0, 1) := by decide +kernel
theorem d_Co_init_23 : decode b_Co_init 23 = .ok (.sipush 300, 3) := by decide +kernel
theorem d_Co_init_26 : decode b_Co_init 26 = .ok (.newarray .int, 2) := by decide +kernel
theorem d_Co_init_28 : decode b_Co_init 28 = .ok (.putfield 18, 3) := by decide +kernel
theorem d_Co_init_31 : decode b_Co_init 31 = .ok (.aload_n 0, 1) := by decide +kernel
theorem d_Co_init_32 : decode b_Co_init 32 = .ok (.bipush 6, 2) := by decide +kernel
theorem d_Co_init_34 : decode b_Co_init 34 = .ok (.newarray .int, 2) := by decide +kernel
theorem d_Co_init_36 : decode b_Co_init 36 = .ok (.putfield 21, 3) := by decide +kernel
theorem d_Co_init_39 : decode b_Co_init 39 = .ok (.aload_n 0, 1) := by decide +kernel
theorem d_Co_init_40 : decode b_Co_init 40 = .ok (.bipush 6, 2) := by decide +kernel
theorem d_Co_init_42 : decode b_Co_init 42 = .ok (.newarray .int, 2) := by decide +kernel
theorem d_Co_init_44 : decode b_Co_init 44 = .ok (.putfield 24, 3) := by decide +kernel
theorem d_Co_init_47 : decode b_Co_init 47 = .ok (.aload_n 0, 1) := by decide +kernel
theorem d_Co_init_48 : decode b_Co_init 48 = .ok (.bipush 6, 2) := by decide +kernel
theorem d_Co_init_50 : decode b_Co_init 50 = .ok (.newarray .int, 2) := by decide +kernel
theorem d_Co_init_52 : decode b_Co_init 52 = .ok (.putfield 27, 3) := by decide +kernel
theorem d_Co_init_55 : decode b_Co_init 55 = .ok (.aload_n 0, 1) := by decide +kernel
theorem d_Co_init_56 : decode b_Co_init 56 = .ok (.iconst 0, 1) := by decide +kernel
theorem d_Co_init_57 : decode b_Co_init 57 = .ok (.putfield 30, 3) := by decide +kernel
theorem d_Co_init_60 : decode b_Co_init 60 = .ok (.aload_n 0, 1) := by decide +kernel
theorem d_Co_init_61 : decode b_Co_init 61 = .ok (.iconst 0, 1) := by decide +kernel
theorem d_Co_init_62 : decode b_Co_init 62 = .ok (.putfield 34, 3) := by decide +kernel
theorem d_Co_init_65 : decode b_Co_init 65 = .ok (.return_, 1) := by decide +kernel
theorem d_Co_add_0 : decode b_Co_add 0 = .ok (.aload_n 0, 1) := by decide +kernel
theorem d_Co_add_1 : decode b_Co_add 1 = .ok (.getfield 30, 3) := by decide +kernel
theorem d_Co_add_4 : decode b_Co_add 4 = .ok (.istore 4, 2) := by decide +kernel
theorem d_Co_add_6 : decode b_Co_add 6 = .ok (.iload 4, 2) := by decide +kernel
theorem d_Co_add_8 : decode b_Co_add 8 = .ok (.sipush 300, 3) := by decide +kernel
theorem d_Co_add_11 : decode b_Co_add 11 = .ok (.if_icmp .ge 37, 3) := by decide +kernel
theorem d_Co_add_14 : decode b_Co_add 14 = .ok (.aload_n 0, 1) := by decide +kernel
theorem d_Co_add_15 : decode b_Co_add 15 = .ok (.getfield 11, 3) := by decide +kernel
theorem d_Co_add_18 : decode b_Co_add 18 = .ok (.iload 4, 2) := by decide +kernel
theorem d_Co_add_20 : decode b_Co_add 20 = .ok (.iload_n 1, 1) := by decide +kernel
theorem d_Co_add_21 : decode b_Co_add 21 = .ok (.iastore, 1) := by decide +kernel
theorem d_Co_add_22 : decode b_Co_add 22 = .ok (.aload_n 0, 1) := by decide +kernel
theorem d_Co_add_23 : decode b_Co_add 23 = .ok (.getfield 15, 3) := by decide +kernel
theorem d_Co_add_26 : decode b_Co_add 26 = .ok (.iload 4, 2) := by decide +kernel
theorem d_Co_add_28 : decode b_Co_add 28 = .ok (.iload_n 2, 1) := by decide +kernel
theorem d_Co_add_29 : decode b_Co_add 29 = .ok (.iastore, 1) := by decide +kernel
theorem d_Co_add_30 : decode b_Co_add 30 = .ok (.aload_n 0, 1) := by decide +kernel
theorem d_Co_add_31 : decode b_Co_add 31 = .ok (.getfield 18, 3) := by decide +kernel
theorem d_Co_add_34 : decode b_Co_add 34 = .ok (.iload 4, 2) := by decide +kernel
theorem d_Co_add_36 : decode b_Co_add 36 = .ok (.iload_n 3, 1) := by decide +kernel
theorem d_Co_add_37 : decode b_Co_add 37 = .ok (.iastore, 1) := by decide +kernel
theorem d_Co_add_38 : decode b_Co_add 38 = .ok (.aload_n 0, 1) := by decide +kernel
theorem d_Co_add_39 : decode b_Co_add 39 = .ok (.dup, 1) := by decide +kernel
theorem d_Co_add_40 : decode b_Co_add 40 = .ok (.getfield 30, 3) := by decide +kernel
theorem d_Co_add_43 : decode b_Co_add 43 = .ok (.iconst 1, 1) := by decide +kernel
theorem d_Co_add_44 : decode b_Co_add 44 = .ok (.iadd, 1) := by decide +kernel
theorem d_Co_add_45 : decode b_Co_add 45 = .ok (.putfield 30, 3) := by decide +kernel
theorem d_Co_add_48 : decode b_Co_add 48 = .ok (.iload 4, 2) := by decide +kernel
theorem d_Co_add_50 : decode b_Co_add 50 = .ok (.ireturn, 1) := by decide +kernel
theorem d_Co_isReference_0 : decode b_Co_isReference 0 = .ok (.iload_n 2, 1) := by decide +kernel
theorem d_Co_isReference_1 : decode b_Co_isReference 1 = .ok (.iconst 3, 1) := by decide +kernel
theorem d_Co_isReference_2 : decode b_Co_isReference 2 = .ok (.if_icmp .ge 21, 3) := by decide +kernel
theorem d_Co_isReference_5 : decode b_Co_isReference 5 = .ok (.aload_n 0, 1) := by decide +kernel
theorem d_Co_isReference_6 : decode b_Co_isReference 6 = .ok (.getfield 27, 3) := by decide +kernel
theorem d_Co_isReference_9 : decode b_Co_isReference 9 = .ok (.iload_n 1, 1) := by decide +kernel
theorem d_Co_isReference_10 : decode b_Co_isReference 10 = .ok (.iaload, 1) := by decide +kernel
theorem d_Co_isReference_11 : decode b_Co_isReference 11 = .ok (.iload_n 2, 1) := by decide +kernel
theorem d_Co_isReference_12 : decode b_Co_isReference 12 = .ok (.ishr, 1) := by decide +kernel
theorem d_Co_isReference_13 : decode b_Co_isReference 13 = .ok (.iconst 1, 1) := by decide +kernel
theorem d_Co_isReference_14 : decode b_Co_isReference 14 = .ok (.iand, 1) := by decide +kernel
theorem d_Co_isReference_15 : decode b_Co_isReference 15 = .ok (.iconst 1, 1) := by decide +kernel
theorem d_Co_isReference_16 : decode b_Co_isReference 16 = .ok (.if_icmp .ne 7, 3) := by decide +kernel
theorem d_Co_isReference_19 : decode b_Co_isReference 19 = .ok (.iconst 1, 1) := by decide +kernel
theorem d_Co_isReference_20 : decode b_Co_isReference 20 = .ok (.goto 4, 3) := by decide +kernel
theorem d_Co_isReference_23 : decode b_Co_isReference 23 = .ok (.iconst 0, 1) := by decide +kernel
theorem d_Co_isReference_24 : decode b_Co_isReference 24 = .ok (.ireturn, 1) := by decide +kernel
theorem d_Co_jumpToEnd_0 : decode b_Co_jumpToEnd 0 = .ok (.iload_n 1, 1) := by decide +kernel
theorem d_Co_jumpToEnd_1 : decode b_Co_jumpToEnd 1 = .ok (.aload_n 0, 1) := by decide +kernel
theorem d_Co_jumpToEnd_2 : decode b_Co_jumpToEnd 2 = .ok (.getfield 30, 3) := by decide +kernel
theorem d_Co_jumpToEnd_5 : decode b_Co_jumpToEnd 5 = .ok (.if_icmp .ge 13, 3) := by decide +kernel
theorem d_Co_jumpToEnd_8 : decode b_Co_jumpToEnd 8 = .ok (.aload_n 0, 1) := by decide +kernel
theorem d_Co_jumpToEnd_9 : decode b_Co_jumpToEnd 9 = .ok (.getfield 15, 3) := by decide +kernel
theorem d_Co_jumpToEnd_12 : decode b_Co_jumpToEnd 12 = .ok (.iload_n 1, 1) := by decide +kernel
theorem d_Co_jumpToEnd_13 : decode b_Co_jumpToEnd 13 = .ok (.aload_n 0, 1) := by decide +kernel
theorem d_Co_jumpToEnd_14 : decode b_Co_jumpToEnd 14 = .ok (.getfield 30, 3) := by decide +kernel
theorem d_Co_jumpToEnd_17 : decode b_Co_jumpToEnd 17 = .ok (.iastore, 1) := by decide +kernel
theorem d_Co_jumpToEnd_18 : decode b_Co_jumpToEnd 18 = .ok (.return_, 1) := by decide +kernel
theorem d_Co_takeAddress_0 : decode b_Co_takeAddress 0 = .ok (.iload_n 1, 1) := by decide +kernel
theorem d_Co_takeAddress_1 : decode b_Co_takeAddress 1 = .ok (.aload_n 0, 1) := by decide +kernel
theorem d_Co_takeAddress_2 : decode b_Co_takeAddress 2 = .ok (.getfield 30, 3) := by decide +kernel
theorem d_Co_takeAddress_5 : decode b_Co_takeAddress 5 = .ok (.if_icmp .ge 24, 3) := by decide +kernel
theorem d_Co_takeAddress_8 : decode b_Co_takeAddress 8 = .ok (.aload_n 0, 1) := by decide +kernel
theorem d_Co_takeAddress_9 : decode b_Co_takeAddress 9 = .ok (.getfield 11, 3) := by decide +kernel
theorem d_Co_takeAddress_12 : decode b_Co_takeAddress 12 = .ok (.iload_n 1, 1) := by decide +kernel
theorem d_Co_takeAddress_13 : decode b_Co_takeAddress 13 = .ok (.aload_n 0, 1) := by decide +kernel
theorem d_Co_takeAddress_14 : decode b_Co_takeAddress 14 = .ok (.getfield 11, 3) := by decide +kernel
theorem d_Co_takeAddress_17 : decode b_Co_takeAddress 17 = .ok (.iload_n 1, 1) := by decide +kernel
theorem d_Co_takeAddress_18 : decode b_Co_takeAddress 18 = .ok (.iaload, 1) := by decide +kernel
theorem d_Co_takeAddress_19 : decode b_Co_takeAddress 19 = .ok (.iconst 3, 1) := by decide +kernel
theorem d_Co_takeAddress_20 : decode b_Co_takeAddress 20 = .ok (.if_icmp .ne 7, 3) := by decide +kernel
theorem d_Co_takeAddress_23 : decode b_Co_takeAddress 23 = .ok (.iconst 2, 1) := by decide +kernel
theorem d_Co_takeAddress_24 : decode b_Co_takeAddress 24 = .ok (.goto 4, 3) := by decide +kernel
theorem d_Co_takeAddress_27 : decode b_Co_takeAddress 27 = .ok (.iconst 4, 1) := by decide +kernel
theorem d_Co_takeAddress_28 : decode b_Co_takeAddress 28 = .ok (.iastore, 1) := by decide +kernel
theorem d_Co_takeAddress_29 : decode b_Co_takeAddress 29 = .ok (.return_, 1) := by decide +kernel
end
section
theorem d_Cp_init_0 : decode b_Cp_init 0 = .ok (.aload_n 0, 1) := by decide +kernel
theorem d_Cp_init_1 : decode b_Cp_init 1 = .ok (.invokespecial 3, 3) := by decide +kernel
theorem d_Cp_init_4 : decode b_Cp_init 4 = .ok (.aload_n 0, 1) := by decide +kernel
theorem d_Cp_init_5 : decode b_Cp_init 5 = .ok (.new 9, 3) := by decide +kernel
theorem d_Cp_init_8 : decode b_Cp_init 8 = .ok (.dup, 1) := by decide +kernel
theorem d_Cp_init_9 : decode b_Cp_init 9 = .ok (.invokespecial 11, 3) := by decide +kernel
theorem d_Cp_init_12 : decode b_Cp_init 12 = .ok (.putfield 12, 3) := by decide +kernel
theorem d_Cp_init_15 : decode b_Cp_init 15 = .ok (.aload_n 0, 1) := by decide +kernel
theorem d_Cp_init_16 : decode b_Cp_init 16 = .ok (.new 18, 3) := by decide +kernel
theorem d_Cp_init_19 : decode b_Cp_init 19 = .ok (.dup, 1) := by decide +kernel
theorem d_Cp_init_20 : decode b_Cp_init 20 = .ok (.invokespecial 20, 3) := by decide +kernel
theorem d_Cp_init_23 : decode b_Cp_init 23 = .ok (.putfield 21, 3) := by decide +kernel
theorem d_Cp_init_26 : decode b_Cp_init 26 = .ok (.aload_n 0, 1) := by decide +kernel
theorem d_Cp_init_27 : decode b_Cp_init 27 = .ok (.new 25, 3) := by decide +kernel
theorem d_Cp_init_30 : decode b_Cp_init 30 = .ok (.dup, 1) := by decide +kernel
theorem d_Cp_init_31 : decode b_Cp_init 31 = .ok (.invokespecial 27, 3) := by decide +kernel
theorem d_Cp_init_34 : decode b_Cp_init 34 = .ok (.putfield 28, 3) := by decide +kernel
theorem d_Cp_init_37 : decode b_Cp_init 37 = .ok (.aload_n 0, 1) := by decide +kernel
theorem d_Cp_init_38 : decode b_Cp_init 38 = .ok (.iconst (-1), 1) := by decide +kernel
theorem d_Cp_init_39 : decode b_Cp_init 39 = .ok (.putfield 32, 3) := by decide +kernel
theorem d_Cp_init_42 : decode b_Cp_init 42 = .ok (.return_, 1) := by decide +kernel
theorem d_Cp_translate_0 : decode b_Cp_translate 0 = .ok (.aload_n 0, 1) := by decide +kernel
theorem d_Cp_translate_1 : decode b_Cp_translate 1 = .ok (.getfield 12, 3) := by decide +kernel
theorem d_Cp_translate_4 : decode b_Cp_translate 4 = .ok (.aload_n 1, 1) := by decide +kernel
theorem d_Cp_translate_5 : decode b_Cp_translate 5 = .ok (.iload_n 2, 1) := by decide +kernel
theorem d_Cp_translate_6 : decode b_Cp_translate 6 = .ok (.invokevirtual 36, 3) := by decide +kernel
theorem d_Cp_translate_9 : decode b_Cp_translate 9 = .ok (.aload_n 0, 1) := by decide +kernel
theorem d_Cp_translate_10 : decode b_Cp_translate 10 = .ok (.getfield 21, 3) := by decide +kernel
theorem d_Cp_translate_13 : decode b_Cp_translate 13 = .ok (.invokevirtual 40, 3) := by decide +kernel
theorem d_Cp_translate_16 : decode b_Cp_translate 16 = .ok (.aload_n 0, 1) := by decide +kernel
theorem d_Cp_translate_17 : decode b_Cp_translate 17 = .ok (.getfield 28, 3) := by decide +kernel
theorem d_Cp_translate_20 : decode b_Cp_translate 20 = .ok (.iconst 0, 1) := by decide +kernel
theorem d_Cp_translate_21 : decode b_Cp_translate 21 = .ok (.putfield 43, 3) := by decide +kernel
theorem d_Cp_translate_24 : decode b_Cp_translate 24 = .ok (.aload_n 0, 1) := by decide +kernel
theorem d_Cp_translate_25 : decode b_Cp_translate 25 = .ok (.getfield 28, 3) := by decide +kernel
theorem d_Cp_translate_28 : decode b_Cp_translate 28 = .ok (.aload_n 0, 1) := by decide +kernel
theorem d_Cp_translate_29 : decode b_Cp_translate 29 = .ok (.iconst 1, 1) := by decide +kernel
theorem d_Cp_translate_30 : decode b_Cp_translate 30 = .ok (.invokevirtual 46, 3) := by decide +kernel
theorem d_Cp_translate_33 : decode b_Cp_translate 33 = .ok (.putfield 50, 3) := by decide +kernel
theorem d_Cp_translate_36 : decode b_Cp_translate 36 = .ok (.aload_n 0, 1) := by decide +kernel
theorem d_Cp_translate_37 : decode b_Cp_translate 37 = .ok (.getstatic 53, 3) := by decide +kernel
theorem d_Cp_translate_40 : decode b_Cp_translate 40 = .ok (.invokevirtual 59, 3) := by decide +kernel
theorem d_Cp_translate_43 : decode b_Cp_translate 43 = .ok (.aload_n 0, 1) := by decide +kernel
theorem d_Cp_translate_44 : decode b_Cp_translate 44 = .ok (.getfield 12, 3) := by decide +kernel
theorem d_Cp_translate_47 : decode b_Cp_translate 47 = .ok (.invokevirtual 63, 3) := by decide +kernel
theorem d_Cp_translate_50 : decode b_Cp_translate 50 = .ok (.getstatic 67, 3) := by decide +kernel
theorem d_Cp_translate_53 : decode b_Cp_translate 53 = .ok (.if_acmp .eq 14, 3) := by decide +kernel
theorem d_Cp_translate_56 : decode b_Cp_translate 56 = .ok (.aload_n 0, 1) := by decide +kernel
theorem d_Cp_translate_57 : decode b_Cp_translate 57 = .ok (.aload_n 0, 1) := by decide +kernel
theorem d_Cp_translate_58 : decode b_Cp_translate 58 = .ok (.getfield 12, 3) := by decide +kernel
theorem d_Cp_translate_61 : decode b_Cp_translate 61 = .ok (.invokevirtual 70, 3) := by decide +kernel
theorem d_Cp_translate_64 : decode b_Cp_translate 64 = .ok (.invokevirtual 74, 3) := by decide +kernel
theorem d_Cp_translate_67 : decode b_Cp_translate 67 = .ok (.aload_n 0, 1) := by decide +kernel
theorem d_Cp_translate_68 : decode b_Cp_translate 68 = .ok (.iconst (-1), 1) := by decide +kernel
theorem d_Cp_translate_69 : decode b_Cp_translate 69 = .ok (.putfield 32, 3) := by decide +kernel
theorem d_Cp_translate_72 : decode b_Cp_translate 72 = .ok (.aload_n 0, 1) := by decide +kernel
theorem d_Cp_translate_73 : decode b_Cp_translate 73 = .ok (.getfield 21, 3) := by decide +kernel
theorem d_Cp_translate_76 : decode b_Cp_translate 76 = .ok (.invokevirtual 78, 3) := by decide +kernel
theorem d_Cp_translate_79 : decode b_Cp_translate 79 = .ok (.ireturn, 1) := by decide +kernel
theorem d_Cp_refuse_0 : decode b_Cp_refuse 0 = .ok (.aload_n 0, 1) := by decide +kernel
theorem d_Cp_refuse_1 : decode b_Cp_refuse 1 = .ok (.iload_n 1, 1) := by decide +kernel
theorem d_Cp_refuse_2 : decode b_Cp_refuse 2 = .ok (.putfield 32, 3) := by decide +kernel
theorem d_Cp_refuse_5 : decode b_Cp_refuse 5 = .ok (.new 81, 3) := by decide +kernel
theorem d_Cp_refuse_8 : decode b_Cp_refuse 8 = .ok (.dup, 1) := by decide +kernel
theorem d_Cp_refuse_9 : decode b_Cp_refuse 9 = .ok (.invokespecial 83, 3) := by decide +kernel
theorem d_Cp_refuse_12 : decode b_Cp_refuse 12 = .ok (.athrow, 1) := by decide +kernel
theorem d_Cp_expect_0 : decode b_Cp_expect 0 = .ok (.aload_n 0, 1) := by decide +kernel
theorem d_Cp_expect_1 : decode b_Cp_expect 1 = .ok (.getfield 12, 3) := by decide +kernel
theorem d_Cp_expect_4 : decode b_Cp_expect 4 = .ok (.aload_n 1, 1) := by decide +kernel
theorem d_Cp_expect_5 : decode b_Cp_expect 5 = .ok (.invokevirtual 84, 3) := by decide +kernel
theorem d_Cp_expect_8 : decode b_Cp_expect 8 = .ok (.ifCond .ne 14, 3) := by decide +kernel
theorem d_Cp_expect_11 : decode b_Cp_expect 11 = .ok (.aload_n 0, 1) := by decide +kernel
theorem d_Cp_expect_12 : decode b_Cp_expect 12 = .ok (.aload_n 0, 1) := by decide +kernel
theorem d_Cp_expect_13 : decode b_Cp_expect 13 = .ok (.getfield 12, 3) := by decide +kernel
theorem d_Cp_expect_16 : decode b_Cp_expect 16 = .ok (.invokevirtual 70, 3) := by decide +kernel
theorem d_Cp_expect_19 : decode b_Cp_expect 19 = .ok (.invokevirtual 74, 3) := by decide +kernel
theorem d_Cp_expect_22 : decode b_Cp_expect 22 = .ok (.return_, 1) := by decide +kernel
theorem d_Cp_declareName_0 : decode b_Cp_declareName 0 = .ok (.aload_n 0, 1) := by decide +kernel
theorem d_Cp_declareName_1 : decode b_Cp_declareName 1 = .ok (.getfield 12, 3) := by decide +kernel
theorem d_Cp_declareName_4 : decode b_Cp_declareName 4 = .ok (.invokevirtual 63, 3) := by decide +kernel
theorem d_Cp_declareName_7 : decode b_Cp_declareName 7 = .ok (.getstatic 88, 3) := by decide +kernel
theorem d_Cp_declareName_10 : decode b_Cp_declareName 10 = .ok (.if_acmp .ne 21, 3) := by decide +kernel
theorem d_Cp_declareName_13 : decode b_Cp_declareName 13 = .ok (.aload_n 0, 1) := by decide +kernel
theorem d_Cp_declareName_14 : decode b_Cp_declareName 14 = .ok (.getfield 21, 3) := by decide +kernel
theorem d_Cp_declareName_17 : decode b_Cp_declareName 17 = .ok (.aload_n 0, 1) := by decide +kernel
theorem d_Cp_declareName_18 : decode b_Cp_declareName 18 = .ok (.getfield 12, 3) := by decide +kernel
theorem d_Cp_declareName_21 : decode b_Cp_declareName 21 = .ok (.invokevirtual 91, 3) := by decide +kernel
theorem d_Cp_declareName_24 : decode b_Cp_declareName 24 = .ok (.iload_n 1, 1) := by decide +kernel
theorem d_Cp_declareName_25 : decode b_Cp_declareName 25 = .ok (.invokevirtual 95, 3) := by decide +kernel
theorem d_Cp_declareName_28 : decode b_Cp_declareName 28 = .ok (.ifCond .ne 14, 3) := by decide +kernel
theorem d_Cp_declareName_31 : decode b_Cp_declareName 31 = .ok (.aload_n 0, 1) := by decide +kernel
theorem d_Cp_declareName_32 : decode b_Cp_declareName 32 = .ok (.aload_n 0, 1) := by decide +kernel
theorem d_Cp_declareName_33 : decode b_Cp_declareName 33 = .ok (.getfield 12, 3) := by decide +kernel
theorem d_Cp_declareName_36 : decode b_Cp_declareName 36 = .ok (.invokevirtual 70, 3) := by decide +kernel
theorem d_Cp_declareName_39 : decode b_Cp_declareName 39 = .ok (.invokevirtual 74, 3) := by decide +kernel
theorem d_Cp_declareName_42 : decode b_Cp_declareName 42 = .ok (.aload_n 0, 1) := by decide +kernel
theorem d_Cp_declareName_43 : decode b_Cp_declareName 43 = .ok (.getfield 12, 3) := by decide +kernel
theorem d_Cp_declareName_46 : decode b_Cp_declareName 46 = .ok (.invokevirtual 99, 3) := by decide +kernel
theorem d_Cp_declareName_49 : decode b_Cp_declareName 49 = .ok (.return_, 1) := by decide +kernel
theorem d_Cp_block_0 : decode b_Cp_block 0 = .ok (.aload_n 0, 1) := by decide +kernel
theorem d_Cp_block_1 : decode b_Cp_block 1 = .ok (.getfield 12, 3) := by decide +kernel
theorem d_Cp_block_4 : decode b_Cp_block 4 = .ok (.getstatic 102, 3) := by decide +kernel
theorem d_Cp_block_7 : decode b_Cp_block 7 = .ok (.invokevirtual 84, 3) := by decide +kernel
theorem d_Cp_block_10 : decode b_Cp_block 10 = .ok (.ifCond .eq 7, 3) := by decide +kernel
theorem d_Cp_block_13 : decode b_Cp_block 13 = .ok (.aload_n 0, 1) := by decide +kernel
theorem d_Cp_block_14 : decode b_Cp_block 14 = .ok (.invokevirtual 105, 3) := by decide +kernel
theorem d_Cp_block_17 : decode b_Cp_block 17 = .ok (.iconst 0, 1) := by decide +kernel
theorem d_Cp_block_18 : decode b_Cp_block 18 = .ok (.istore_n 2, 1) := by decide +kernel
theorem d_Cp_block_19 : decode b_Cp_block 19 = .ok (.iload_n 2, 1) := by decide +kernel
theorem d_Cp_block_20 : decode b_Cp_block 20 = .ok (.sipush 150, 3) := by decide +kernel
theorem d_Cp_block_23 : decode b_Cp_block 23 = .ok (.if_icmp .ge 27, 3) := by decide +kernel
theorem d_Cp_block_26 : decode b_Cp_block 26 = .ok (.aload_n 0, 1) := by decide +kernel
theorem d_Cp_block_27 : decode b_Cp_block 27 = .ok (.getfield 12, 3) := by decide +kernel
theorem d_Cp_block_30 : decode b_Cp_block 30 = .ok (.invokevirtual 63, 3) := by decide +kernel
theorem d_Cp_block_33 : decode b_Cp_block 33 = .ok (.getstatic 108, 3) := by decide +kernel
theorem d_Cp_block_36 : decode b_Cp_block 36 = .ok (.if_acmp .ne 14, 3) := by decide +kernel
theorem d_Cp_block_39 : decode b_Cp_block 39 = .ok (.aload_n 0, 1) := by decide +kernel
theorem d_Cp_block_40 : decode b_Cp_block 40 = .ok (.iload_n 1, 1) := by decide +kernel
theorem d_Cp_block_41 : decode b_Cp_block 41 = .ok (.invokevirtual 111, 3) := by decide +kernel
theorem d_Cp_block_44 : decode b_Cp_block 44 = .ok (.iinc 2 1, 3) := by decide +kernel
theorem d_Cp_block_47 : decode b_Cp_block 47 = .ok (.goto (-28), 3) := by decide +kernel
theorem d_Cp_block_50 : decode b_Cp_block 50 = .ok (.aload_n 0, 1) := by decide +kernel
theorem d_Cp_block_51 : decode b_Cp_block 51 = .ok (.getfield 28, 3) := by decide +kernel
theorem d_Cp_block_54 : decode b_Cp_block 54 = .ok (.getfield 43, 3) := by decide +kernel
theorem d_Cp_block_57 : decode b_Cp_block 57 = .ok (.istore_n 2, 1) := by decide +kernel
theorem d_Cp_block_58 : decode b_Cp_block 58 = .ok (.aload_n 0, 1) := by decide +kernel
theorem d_Cp_block_59 : decode b_Cp_block 59 = .ok (.getstatic 114, 3) := by decide +kernel
theorem d_Cp_block_62 : decode b_Cp_block 62 = .ok (.invokevirtual 59, 3) := by decide +kernel
theorem d_Cp_block_65 : decode b_Cp_block 65 = .ok (.aload_n 0, 1) := by decide +kernel
theorem d_Cp_block_66 : decode b_Cp_block 66 = .ok (.iconst 0, 1) := by decide +kernel
theorem d_Cp_block_67 : decode b_Cp_block 67 = .ok (.invokevirtual 117, 3) := by decide +kernel
theorem d_Cp_block_70 : decode b_Cp_block 70 = .ok (.aload_n 0, 1) := by decide +kernel
theorem d_Cp_block_71 : decode b_Cp_block 71 = .ok (.getfield 28, 3) := by decide +kernel
theorem d_Cp_block_74 : decode b_Cp_block 74 = .ok (.bipush 19, 2) := by decide +kernel
theorem d_Cp_block_76 : decode b_Cp_block 76 = .ok (.iconst 0, 1) := by decide +kernel
theorem d_Cp_block_77 : decode b_Cp_block 77 = .ok (.iconst 0, 1) := by decide +kernel
theorem d_Cp_block_78 : decode b_Cp_block 78 = .ok (.invokevirtual 120, 3) := by decide +kernel
theorem d_Cp_block_81 : decode b_Cp_block 81 = .ok (.pop, 1) := by decide +kernel
theorem d_Cp_block_82 : decode b_Cp_block 82 = .ok (.iload_n 2, 1) := by decide +kernel
theorem d_Cp_block_83 : decode b_Cp_block 83 = .ok (.ireturn, 1) := by decide +kernel
theorem d_Cp_variables_0 : decode b_Cp_variables 0 = .ok (.aload_n 0, 1) := by decide +kernel
theorem d_Cp_variables_1 : decode b_Cp_variables 1 = .ok (.iconst 0, 1) := by decide +kernel
theorem d_Cp_variables_2 : decode b_Cp_variables 2 = .ok (.invokevirtual 124, 3) := by decide +kernel
theorem d_Cp_variables_5 : decode b_Cp_variables 5 = .ok (.iconst 0, 1) := by decide +kernel
theorem d_Cp_variables_6 : decode b_Cp_variables 6 = .ok (.istore_n 1, 1) := by decide +kernel
theorem d_Cp_variables_7 : decode b_Cp_variables 7 = .ok (.iload_n 1, 1) := by decide +kernel
theorem d_Cp_variables_8 : decode b_Cp_variables 8 = .ok (.sipush 150, 3) := by decide +kernel
theorem d_Cp_variables_11 : decode b_Cp_variables 11 = .ok (.if_icmp .ge 27, 3) := by decide +kernel
theorem d_Cp_variables_14 : decode b_Cp_variables 14 = .ok (.aload_n 0, 1) := by decide +kernel
theorem d_Cp_variables_15 : decode b_Cp_variables 15 = .ok (.getfield 12, 3) := by decide +kernel
theorem d_Cp_variables_18 : decode b_Cp_variables 18 = .ok (.getstatic 127, 3) := by decide +kernel
theorem d_Cp_variables_21 : decode b_Cp_variables 21 = .ok (.invokevirtual 84, 3) := by decide +kernel
theorem d_Cp_variables_24 : decode b_Cp_variables 24 = .ok (.ifCond .eq 14, 3) := by decide +kernel
theorem d_Cp_variables_27 : decode b_Cp_variables 27 = .ok (.aload_n 0, 1) := by decide +kernel
theorem d_Cp_variables_28 : decode b_Cp_variables 28 = .ok (.iconst 0, 1) := by decide +kernel
theorem d_Cp_variables_29 : decode b_Cp_variables 29 = .ok (.invokevirtual 124, 3) := by decide +kernel
theorem d_Cp_variables_32 : decode b_Cp_variables 32 = .ok (.iinc 1 1, 3) := by decide +kernel
theorem d_Cp_variables_35 : decode b_Cp_variables 35 = .ok (.goto (-28), 3) := by decide +kernel
theorem d_Cp_variables_38 : decode b_Cp_variables 38 = .ok (.aload_n 0, 1) := by decide +kernel
theorem d_Cp_variables_39 : decode b_Cp_variables 39 = .ok (.getstatic 130, 3) := by decide +kernel
theorem d_Cp_variables_42 : decode b_Cp_variables 42 = .ok (.invokevirtual 59, 3) := by decide +kernel
theorem d_Cp_variables_45 : decode b_Cp_variables 45 = .ok (.return_, 1) := by decide +kernel
theorem d_Cp_procedure_0 : decode b_Cp_procedure 0 = .ok (.iload_n 1, 1) := by decide +kernel
theorem d_Cp_procedure_1 : decode b_Cp_procedure 1 = .ok (.iconst 4, 1) := by decide +kernel
theorem d_Cp_procedure_2 : decode b_Cp_procedure 2 = .ok (.if_icmp .ne 14, 3) := by decide +kernel
theorem d_Cp_procedure_5 : decode b_Cp_procedure 5 = .ok (.aload_n 0, 1) := by decide +kernel
theorem d_Cp_procedure_6 : decode b_Cp_procedure 6 = .ok (.aload_n 0, 1) := by decide +kernel
theorem d_Cp_procedure_7 : decode b_Cp_procedure 7 = .ok (.getfield 12, 3) := by decide +kernel
theorem d_Cp_procedure_10 : decode b_Cp_procedure 10 = .ok (.invokevirtual 70, 3) := by decide +kernel
theorem d_Cp_procedure_13 : decode b_Cp_procedure 13 = .ok (.invokevirtual 74, 3) := by decide +kernel
theorem d_Cp_procedure_16 : decode b_Cp_procedure 16 = .ok (.aload_n 0, 1) := by decide +kernel
theorem d_Cp_procedure_17 : decode b_Cp_procedure 17 = .ok (.getfield 12, 3) := by decide +kernel
theorem d_Cp_procedure_20 : decode b_Cp_procedure 20 = .ok (.invokevirtual 99, 3) := by decide +kernel
theorem d_Cp_procedure_23 : decode b_Cp_procedure 23 = .ok (.aload_n 0, 1) := by decide +kernel
theorem d_Cp_procedure_24 : decode b_Cp_procedure 24 = .ok (.iconst 2, 1) := by decide +kernel
theorem d_Cp_procedure_25 : decode b_Cp_procedure 25 = .ok (.invokevirtual 124, 3) := by decide +kernel
theorem d_Cp_procedure_28 : decode b_Cp_procedure 28 = .ok (.aload_n 0, 1) := by decide +kernel
theorem d_Cp_procedure_29 : decode b_Cp_procedure 29 = .ok (.getfield 21, 3) := by decide +kernel
theorem d_Cp_procedure_32 : decode b_Cp_procedure 32 = .ok (.invokevirtual 133, 3) := by decide +kernel
theorem d_Cp_procedure_35 : decode b_Cp_procedure 35 = .ok (.istore_n 2, 1) := by decide +kernel
theorem d_Cp_procedure_36 : decode b_Cp_procedure 36 = .ok (.aload_n 0, 1) := by decide +kernel
theorem d_Cp_procedure_37 : decode b_Cp_procedure 37 = .ok (.getfield 28, 3) := by decide +kernel
theorem d_Cp_procedure_40 : decode b_Cp_procedure 40 = .ok (.getfield 136, 3) := by decide +kernel
theorem d_Cp_procedure_43 : decode b_Cp_procedure 43 = .ok (.iload_n 2, 1) := by decide +kernel
theorem d_Cp_procedure_44 : decode b_Cp_procedure 44 = .ok (.iconst 0, 1) := by decide +kernel
theorem d_Cp_procedure_45 : decode b_Cp_procedure 45 = .ok (.iastore, 1) := by decide +kernel
theorem d_Cp_procedure_46 : decode b_Cp_procedure 46 = .ok (.aload_n 0, 1) := by decide +kernel
theorem d_Cp_procedure_47 : decode b_Cp_procedure 47 = .ok (.getfield 28, 3) := by decide +kernel
theorem d_Cp_procedure_50 : decode b_Cp_procedure 50 = .ok (.getfield 140, 3) := by decide +kernel
theorem d_Cp_procedure_53 : decode b_Cp_procedure 53 = .ok (.iload_n 2, 1) := by decide +kernel
theorem d_Cp_procedure_54 : decode b_Cp_procedure 54 = .ok (.iconst 0, 1) := by decide +kernel
theorem d_Cp_procedure_55 : decode b_Cp_procedure 55 = .ok (.iastore, 1) := by decide +kernel
theorem d_Cp_procedure_56 : decode b_Cp_procedure 56 = .ok (.aload_n 0, 1) := by decide +kernel
theorem d_Cp_procedure_57 : decode b_Cp_procedure 57 = .ok (.getfield 21, 3) := by decide +kernel
theorem d_Cp_procedure_60 : decode b_Cp_procedure 60 = .ok (.invokevirtual 143, 3) := by decide +kernel
theorem d_Cp_procedure_63 : decode b_Cp_procedure 63 = .ok (.aload_n 0, 1) := by decide +kernel
theorem d_Cp_procedure_64 : decode b_Cp_procedure 64 = .ok (.getfield 12, 3) := by decide +kernel
theorem d_Cp_procedure_67 : decode b_Cp_procedure 67 = .ok (.getstatic 146, 3) := by decide +kernel
theorem d_Cp_procedure_70 : decode b_Cp_procedure 70 = .ok (.invokevirtual 84, 3) := by decide +kernel
theorem d_Cp_procedure_73 : decode b_Cp_procedure 73 = .ok (.ifCond .eq 8, 3) := by decide +kernel
theorem d_Cp_procedure_76 : decode b_Cp_procedure 76 = .ok (.aload_n 0, 1) := by decide +kernel
theorem d_Cp_procedure_77 : decode b_Cp_procedure 77 = .ok (.iload_n 2, 1) := by decide +kernel
theorem d_Cp_procedure_78 : decode b_Cp_procedure 78 = .ok (.invokevirtual 149, 3) := by decide +kernel
theorem d_Cp_procedure_81 : decode b_Cp_procedure 81 = .ok (.aload_n 0, 1) := by decide +kernel
theorem d_Cp_procedure_82 : decode b_Cp_procedure 82 = .ok (.getstatic 130, 3) := by decide +kernel
theorem d_Cp_procedure_85 : decode b_Cp_procedure 85 = .ok (.invokevirtual 59, 3) := by decide +kernel
theorem d_Cp_procedure_88 : decode b_Cp_procedure 88 = .ok (.aload_n 0, 1) := by decide +kernel
theorem d_Cp_procedure_89 : decode b_Cp_procedure 89 = .ok (.getfield 28, 3) := by decide +kernel
theorem d_Cp_procedure_92 : decode b_Cp_procedure 92 = .ok (.getfield 151, 3) := by decide +kernel
theorem d_Cp_procedure_95 : decode b_Cp_procedure 95 = .ok (.iload_n 2, 1) := by decide +kernel
theorem d_Cp_procedure_96 : decode b_Cp_procedure 96 = .ok (.aload_n 0, 1) := by decide +kernel
theorem d_Cp_procedure_97 : decode b_Cp_procedure 97 = .ok (.iload_n 1, 1) := by decide +kernel
theorem d_Cp_procedure_98 : decode b_Cp_procedure 98 = .ok (.iconst 1, 1) := by decide +kernel
theorem d_Cp_procedure_99 : decode b_Cp_procedure 99 = .ok (.iadd, 1) := by decide +kernel
theorem d_Cp_procedure_100 : decode b_Cp_procedure 100 = .ok (.invokevirtual 46, 3) := by decide +kernel
theorem d_Cp_procedure_103 : decode b_Cp_procedure 103 = .ok (.iastore, 1) := by decide +kernel
theorem d_Cp_procedure_104 : decode b_Cp_procedure 104 = .ok (.aload_n 0, 1) := by decide +kernel
theorem d_Cp_procedure_105 : decode b_Cp_procedure 105 = .ok (.getfield 21, 3) := by decide +kernel
theorem d_Cp_procedure_108 : decode b_Cp_procedure 108 = .ok (.invokevirtual 154, 3) := by decide +kernel
theorem d_Cp_procedure_111 : decode b_Cp_procedure 111 = .ok (.aload_n 0, 1) := by decide +kernel
theorem d_Cp_procedure_112 : decode b_Cp_procedure 112 = .ok (.getstatic 130, 3) := by decide +kernel
theorem d_Cp_procedure_115 : decode b_Cp_procedure 115 = .ok (.invokevirtual 59, 3) := by decide +kernel
theorem d_Cp_procedure_118 : decode b_Cp_procedure 118 = .ok (.return_, 1) := by decide +kernel
theorem d_Cp_parameters_0 : decode b_Cp_parameters 0 = .ok (.aload_n 0, 1) := by decide +kernel
theorem d_Cp_parameters_1 : decode b_Cp_parameters 1 = .ok (.iload_n 1, 1) := by decide +kernel
theorem d_Cp_parameters_2 : decode b_Cp_parameters 2 = .ok (.invokevirtual 157, 3) := by decide +kernel
theorem d_Cp_parameters_5 : decode b_Cp_parameters 5 = .ok (.iconst 0, 1) := by decide +kernel
theorem d_Cp_parameters_6 : decode b_Cp_parameters 6 = .ok (.istore_n 2, 1) := by decide +kernel
theorem d_Cp_parameters_7 : decode b_Cp_parameters 7 = .ok (.iload_n 2, 1) := by decide +kernel
theorem d_Cp_parameters_8 : decode b_Cp_parameters 8 = .ok (.sipush 150, 3) := by decide +kernel
theorem d_Cp_parameters_11 : decode b_Cp_parameters 11 = .ok (.if_icmp .ge 27, 3) := by decide +kernel
theorem d_Cp_parameters_14 : decode b_Cp_parameters 14 = .ok (.aload_n 0, 1) := by decide +kernel
theorem d_Cp_parameters_15 : decode b_Cp_parameters 15 = .ok (.getfield 12, 3) := by decide +kernel
theorem d_Cp_parameters_18 : decode b_Cp_parameters 18 = .ok (.getstatic 127, 3) := by decide +kernel
theorem d_Cp_parameters_21 : decode b_Cp_parameters 21 = .ok (.invokevirtual 84, 3) := by decide +kernel
theorem d_Cp_parameters_24 : decode b_Cp_parameters 24 = .ok (.ifCond .eq 14, 3) := by decide +kernel
theorem d_Cp_parameters_27 : decode b_Cp_parameters 27 = .ok (.aload_n 0, 1) := by decide +kernel
theorem d_Cp_parameters_28 : decode b_Cp_parameters 28 = .ok (.iload_n 1, 1) := by decide +kernel
theorem d_Cp_parameters_29 : decode b_Cp_parameters 29 = .ok (.invokevirtual 157, 3) := by decide +kernel
theorem d_Cp_parameters_32 : decode b_Cp_parameters 32 = .ok (.iinc 2 1, 3) := by decide +kernel
theorem d_Cp_parameters_35 : decode b_Cp_parameters 35 = .ok (.goto (-28), 3) := by decide +kernel
theorem d_Cp_parameters_38 : decode b_Cp_parameters 38 = .ok (.aload_n 0, 1) := by decide +kernel
theorem d_Cp_parameters_39 : decode b_Cp_parameters 39 = .ok (.getstatic 160, 3) := by decide +kernel
theorem d_Cp_parameters_42 : decode b_Cp_parameters 42 = .ok (.invokevirtual 59, 3) := by decide +kernel
theorem d_Cp_parameters_45 : decode b_Cp_parameters 45 = .ok (.return_, 1) := by decide +kernel
theorem d_Cp_parameter_0 : decode b_Cp_parameter 0 = .ok (.aload_n 0, 1) := by decide +kernel
theorem d_Cp_parameter_1 : decode b_Cp_parameter 1 = .ok (.getfield 12, 3) := by decide +kernel
theorem d_Cp_parameter_4 : decode b_Cp_parameter 4 = .ok (.getstatic 163, 3) := by decide +kernel
theorem d_Cp_parameter_7 : decode b_Cp_parameter 7 = .ok (.invokevirtual 84, 3) := by decide +kernel
theorem d_Cp_parameter_10 : decode b_Cp_parameter 10 = .ok (.istore_n 2, 1) := by decide +kernel
theorem d_Cp_parameter_11 : decode b_Cp_parameter 11 = .ok (.aload_n 0, 1) := by decide +kernel
theorem d_Cp_parameter_12 : decode b_Cp_parameter 12 = .ok (.getfield 28, 3) := by decide +kernel
theorem d_Cp_parameter_15 : decode b_Cp_parameter 15 = .ok (.getfield 136, 3) := by decide +kernel
theorem d_Cp_parameter_18 : decode b_Cp_parameter 18 = .ok (.iload_n 1, 1) := by decide +kernel
theorem d_Cp_parameter_19 : decode b_Cp_parameter 19 = .ok (.iaload, 1) := by decide +kernel
theorem d_Cp_parameter_20 : decode b_Cp_parameter 20 = .ok (.istore_n 3, 1) := by decide +kernel
theorem d_Cp_parameter_21 : decode b_Cp_parameter 21 = .ok (.iload_n 3, 1) := by decide +kernel
theorem d_Cp_parameter_22 : decode b_Cp_parameter 22 = .ok (.iconst 3, 1) := by decide +kernel
theorem d_Cp_parameter_23 : decode b_Cp_parameter 23 = .ok (.if_icmp .ne 14, 3) := by decide +kernel
theorem d_Cp_parameter_26 : decode b_Cp_parameter 26 = .ok (.aload_n 0, 1) := by decide +kernel
theorem d_Cp_parameter_27 : decode b_Cp_parameter 27 = .ok (.aload_n 0, 1) := by decide +kernel
theorem d_Cp_parameter_28 : decode b_Cp_parameter 28 = .ok (.getfield 12, 3) := by decide +kernel
theorem d_Cp_parameter_31 : decode b_Cp_parameter 31 = .ok (.invokevirtual 70, 3) := by decide +kernel
theorem d_Cp_parameter_34 : decode b_Cp_parameter 34 = .ok (.invokevirtual 74, 3) := by decide +kernel
theorem d_Cp_parameter_37 : decode b_Cp_parameter 37 = .ok (.aload_n 0, 1) := by decide +kernel
theorem d_Cp_parameter_38 : decode b_Cp_parameter 38 = .ok (.iload_n 2, 1) := by decide +kernel
theorem d_Cp_parameter_39 : decode b_Cp_parameter 39 = .ok (.ifCond .eq 7, 3) := by decide +kernel
theorem d_Cp_parameter_42 : decode b_Cp_parameter 42 = .ok (.iconst 1, 1) := by decide +kernel
theorem d_Cp_parameter_43 : decode b_Cp_parameter 43 = .ok (.goto 4, 3) := by decide +kernel
theorem d_Cp_parameter_46 : decode b_Cp_parameter 46 = .ok (.iconst 0, 1) := by decide +kernel
theorem d_Cp_parameter_47 : decode b_Cp_parameter 47 = .ok (.invokevirtual 124, 3) := by decide +kernel
theorem d_Cp_parameter_50 : decode b_Cp_parameter 50 = .ok (.iload_n 2, 1) := by decide +kernel
theorem d_Cp_parameter_51 : decode b_Cp_parameter 51 = .ok (.ifCond .eq 18, 3) := by decide +kernel
theorem d_Cp_parameter_54 : decode b_Cp_parameter 54 = .ok (.aload_n 0, 1) := by decide +kernel
theorem d_Cp_parameter_55 : decode b_Cp_parameter 55 = .ok (.getfield 28, 3) := by decide +kernel
theorem d_Cp_parameter_58 : decode b_Cp_parameter 58 = .ok (.getfield 140, 3) := by decide +kernel
theorem d_Cp_parameter_61 : decode b_Cp_parameter 61 = .ok (.iload_n 1, 1) := by decide +kernel
theorem d_Cp_parameter_62 : decode b_Cp_parameter 62 = .ok (.dup2, 1) := by decide +kernel
theorem d_Cp_parameter_63 : decode b_Cp_parameter 63 = .ok (.iaload, 1) := by decide +kernel
theorem d_Cp_parameter_64 : decode b_Cp_parameter 64 = .ok (.iconst 1, 1) := by decide +kernel
theorem d_Cp_parameter_65 : decode b_Cp_parameter 65 = .ok (.iload_n 3, 1) := by decide +kernel
theorem d_Cp_parameter_66 : decode b_Cp_parameter 66 = .ok (.ishl, 1) := by decide +kernel
theorem d_Cp_parameter_67 : decode b_Cp_parameter 67 = .ok (.ior, 1) := by decide +kernel
theorem d_Cp_parameter_68 : decode b_Cp_parameter 68 = .ok (.iastore, 1) := by decide +kernel
theorem d_Cp_parameter_69 : decode b_Cp_parameter 69 = .ok (.aload_n 0, 1) := by decide +kernel
theorem d_Cp_parameter_70 : decode b_Cp_parameter 70 = .ok (.getfield 28, 3) := by decide +kernel
theorem d_Cp_parameter_73 : decode b_Cp_parameter 73 = .ok (.getfield 136, 3) := by decide +kernel
theorem d_Cp_parameter_76 : decode b_Cp_parameter 76 = .ok (.iload_n 1, 1) := by decide +kernel
theorem d_Cp_parameter_77 : decode b_Cp_parameter 77 = .ok (.dup2, 1) := by decide +kernel
theorem d_Cp_parameter_78 : decode b_Cp_parameter 78 = .ok (.iaload, 1) := by decide +kernel
theorem d_Cp_parameter_79 : decode b_Cp_parameter 79 = .ok (.iconst 1, 1) := by decide +kernel
theorem d_Cp_parameter_80 : decode b_Cp_parameter 80 = .ok (.iadd, 1) := by decide +kernel
theorem d_Cp_parameter_81 : decode b_Cp_parameter 81 = .ok (.iastore, 1) := by decide +kernel
theorem d_Cp_parameter_82 : decode b_Cp_parameter 82 = .ok (.return_, 1) := by decide +kernel
theorem d_Cp_statements_0 : decode b_Cp_statements 0 = .ok (.aload_n 0, 1) := by decide +kernel
theorem d_Cp_statements_1 : decode b_Cp_statements 1 = .ok (.iload_n 1, 1) := by decide +kernel
theorem d_Cp_statements_2 : decode b_Cp_statements 2 = .ok (.invokevirtual 166, 3) := by decide +kernel
theorem d_Cp_statements_5 : decode b_Cp_statements 5 = .ok (.iconst 0, 1) := by decide +kernel
theorem d_Cp_statements_6 : decode b_Cp_statements 6 = .ok (.istore_n 2, 1) := by decide +kernel
theorem d_Cp_statements_7 : decode b_Cp_statements 7 = .ok (.iload_n 2, 1) := by decide +kernel
theorem d_Cp_statements_8 : decode b_Cp_statements 8 = .ok (.sipush 150, 3) := by decide +kernel
theorem d_Cp_statements_11 : decode b_Cp_statements 11 = .ok (.if_icmp .ge 27, 3) := by decide +kernel
theorem d_Cp_statements_14 : decode b_Cp_statements 14 = .ok (.aload_n 0, 1) := by decide +kernel
theorem d_Cp_statements_15 : decode b_Cp_statements 15 = .ok (.getfield 12, 3) := by decide +kernel
theorem d_Cp_statements_18 : decode b_Cp_statements 18 = .ok (.getstatic 130, 3) := by decide +kernel
theorem d_Cp_statements_21 : decode b_Cp_statements 21 = .ok (.invokevirtual 84, 3) := by decide +kernel
theorem d_Cp_statements_24 : decode b_Cp_statements 24 = .ok (.ifCond .eq 14, 3) := by decide +kernel
theorem d_Cp_statements_27 : decode b_Cp_statements 27 = .ok (.aload_n 0, 1) := by decide +kernel
theorem d_Cp_statements_28 : decode b_Cp_statements 28 = .ok (.iload_n 1, 1) := by decide +kernel
theorem d_Cp_statements_29 : decode b_Cp_statements 29 = .ok (.invokevirtual 166, 3) := by decide +kernel
theorem d_Cp_statements_32 : decode b_Cp_statements 32 = .ok (.iinc 2 1, 3) := by decide +kernel
theorem d_Cp_statements_35 : decode b_Cp_statements 35 = .ok (.goto (-28), 3) := by decide +kernel
theorem d_Cp_statements_38 : decode b_Cp_statements 38 = .ok (.aload_n 0, 1) := by decide +kernel
theorem d_Cp_statements_39 : decode b_Cp_statements 39 = .ok (.getstatic 169, 3) := by decide +kernel
theorem d_Cp_statements_42 : decode b_Cp_statements 42 = .ok (.invokevirtual 59, 3) := by decide +kernel
theorem d_Cp_statements_45 : decode b_Cp_statements 45 = .ok (.return_, 1) := by decide +kernel
theorem d_Cp_statement_0 : decode b_Cp_statement 0 = .ok (.getstatic 172, 3) := by decide +kernel
theorem d_Cp_statement_3 : decode b_Cp_statement 3 = .ok (.aload_n 0, 1) := by decide +kernel
theorem d_Cp_statement_4 : decode b_Cp_statement 4 = .ok (.getfield 12, 3) := by decide +kernel
theorem d_Cp_statement_7 : decode b_Cp_statement 7 = .ok (.invokevirtual 63, 3) := by decide +kernel
theorem d_Cp_statement_10 : decode b_Cp_statement 10 = .ok (.invokevirtual 177, 3) := by decide +kernel
theorem d_Cp_statement_13 : decode b_Cp_statement 13 = .ok (.iaload, 1) := by decide +kernel
theorem d_Cp_statement_14 : decode b_Cp_statement 14 = .ok (.tableswitch 120 1 5 #[34, 61, 76, 91, 106], 34) := by decide +kernel
theorem d_Cp_statement_48 : decode b_Cp_statement 48 = .ok (.aload_n 0, 1) := by decide +kernel
theorem d_Cp_statement_49 : decode b_Cp_statement 49 = .ok (.getfield 12, 3) := by decide +kernel
theorem d_Cp_statement_52 : decode b_Cp_statement 52 = .ok (.getstatic 180, 3) := by decide +kernel
theorem d_Cp_statement_55 : decode b_Cp_statement 55 = .ok (.invokevirtual 183, 3) := by decide +kernel
theorem d_Cp_statement_58 : decode b_Cp_statement 58 = .ok (.ifCond .eq 10, 3) := by decide +kernel
theorem d_Cp_statement_61 : decode b_Cp_statement 61 = .ok (.aload_n 0, 1) := by decide +kernel
theorem d_Cp_statement_62 : decode b_Cp_statement 62 = .ok (.invokevirtual 186, 3) := by decide +kernel
theorem d_Cp_statement_65 : decode b_Cp_statement 65 = .ok (.goto 69, 3) := by decide +kernel
theorem d_Cp_statement_68 : decode b_Cp_statement 68 = .ok (.aload_n 0, 1) := by decide +kernel
theorem d_Cp_statement_69 : decode b_Cp_statement 69 = .ok (.invokevirtual 189, 3) := by decide +kernel
theorem d_Cp_statement_72 : decode b_Cp_statement 72 = .ok (.goto 62, 3) := by decide +kernel
theorem d_Cp_statement_75 : decode b_Cp_statement 75 = .ok (.aload_n 0, 1) := by decide +kernel
theorem d_Cp_statement_76 : decode b_Cp_statement 76 = .ok (.iload_n 1, 1) := by decide +kernel
theorem d_Cp_statement_77 : decode b_Cp_statement 77 = .ok (.invokevirtual 192, 3) := by decide +kernel
theorem d_Cp_statement_80 : decode b_Cp_statement 80 = .ok (.aload_n 0, 1) := by decide +kernel
theorem d_Cp_statement_81 : decode b_Cp_statement 81 = .ok (.iload_n 1, 1) := by decide +kernel
theorem d_Cp_statement_82 : decode b_Cp_statement 82 = .ok (.iconst 1, 1) := by decide +kernel
theorem d_Cp_statement_83 : decode b_Cp_statement 83 = .ok (.iadd, 1) := by decide +kernel
theorem d_Cp_statement_84 : decode b_Cp_statement 84 = .ok (.invokevirtual 117, 3) := by decide +kernel
theorem d_Cp_statement_87 : decode b_Cp_statement 87 = .ok (.goto 47, 3) := by decide +kernel
theorem d_Cp_statement_90 : decode b_Cp_statement 90 = .ok (.aload_n 0, 1) := by decide +kernel
theorem d_Cp_statement_91 : decode b_Cp_statement 91 = .ok (.iload_n 1, 1) := by decide +kernel
theorem d_Cp_statement_92 : decode b_Cp_statement 92 = .ok (.invokevirtual 192, 3) := by decide +kernel
theorem d_Cp_statement_95 : decode b_Cp_statement 95 = .ok (.aload_n 0, 1) := by decide +kernel
theorem d_Cp_statement_96 : decode b_Cp_statement 96 = .ok (.iload_n 1, 1) := by decide +kernel
theorem d_Cp_statement_97 : decode b_Cp_statement 97 = .ok (.iconst 1, 1) := by decide +kernel
theorem d_Cp_statement_98 : decode b_Cp_statement 98 = .ok (.iadd, 1) := by decide +kernel
theorem d_Cp_statement_99 : decode b_Cp_statement 99 = .ok (.invokevirtual 195, 3) := by decide +kernel
theorem d_Cp_statement_102 : decode b_Cp_statement 102 = .ok (.goto 32, 3) := by decide +kernel
theorem d_Cp_statement_105 : decode b_Cp_statement 105 = .ok (.aload_n 0, 1) := by decide +kernel
theorem d_Cp_statement_106 : decode b_Cp_statement 106 = .ok (.iload_n 1, 1) := by decide +kernel
theorem d_Cp_statement_107 : decode b_Cp_statement 107 = .ok (.invokevirtual 192, 3) := by decide +kernel
theorem d_Cp_statement_110 : decode b_Cp_statement 110 = .ok (.aload_n 0, 1) := by decide +kernel
theorem d_Cp_statement_111 : decode b_Cp_statement 111 = .ok (.iload_n 1, 1) := by decide +kernel
theorem d_Cp_statement_112 : decode b_Cp_statement 112 = .ok (.iconst 1, 1) := by decide +kernel
theorem d_Cp_statement_113 : decode b_Cp_statement 113 = .ok (.iadd, 1) := by decide +kernel
theorem d_Cp_statement_114 : decode b_Cp_statement 114 = .ok (.invokevirtual 198, 3) := by decide +kernel
theorem d_Cp_statement_117 : decode b_Cp_statement 117 = .ok (.goto 17, 3) := by decide +kernel
theorem d_Cp_statement_120 : decode b_Cp_statement 120 = .ok (.aload_n 0, 1) := by decide +kernel
theorem d_Cp_statement_121 : decode b_Cp_statement 121 = .ok (.getfield 12, 3) := by decide +kernel
theorem d_Cp_statement_124 : decode b_Cp_statement 124 = .ok (.invokevirtual 99, 3) := by decide +kernel
theorem d_Cp_statement_127 : decode b_Cp_statement 127 = .ok (.aload_n 0, 1) := by decide +kernel
theorem d_Cp_statement_128 : decode b_Cp_statement 128 = .ok (.invokevirtual 201, 3) := by decide +kernel
theorem d_Cp_statement_131 : decode b_Cp_statement 131 = .ok (.goto 3, 3) := by decide +kernel
theorem d_Cp_statement_134 : decode b_Cp_statement 134 = .ok (.return_, 1) := by decide +kernel
theorem d_Cp_goDeeper_0 : decode b_Cp_goDeeper 0 = .ok (.iload_n 1, 1) := by decide +kernel
theorem d_Cp_goDeeper_1 : decode b_Cp_goDeeper 1 = .ok (.bipush 8, 2) := by decide +kernel
theorem d_Cp_goDeeper_3 : decode b_Cp_goDeeper 3 = .ok (.if_icmp .ne 14, 3) := by decide +kernel
theorem d_Cp_goDeeper_6 : decode b_Cp_goDeeper 6 = .ok (.aload_n 0, 1) := by decide +kernel
theorem d_Cp_goDeeper_7 : decode b_Cp_goDeeper 7 = .ok (.aload_n 0, 1) := by decide +kernel
theorem d_Cp_goDeeper_8 : decode b_Cp_goDeeper 8 = .ok (.getfield 12, 3) := by decide +kernel
theorem d_Cp_goDeeper_11 : decode b_Cp_goDeeper 11 = .ok (.invokevirtual 70, 3) := by decide +kernel
theorem d_Cp_goDeeper_14 : decode b_Cp_goDeeper 14 = .ok (.invokevirtual 74, 3) := by decide +kernel
theorem d_Cp_goDeeper_17 : decode b_Cp_goDeeper 17 = .ok (.aload_n 0, 1) := by decide +kernel
theorem d_Cp_goDeeper_18 : decode b_Cp_goDeeper 18 = .ok (.getfield 12, 3) := by decide +kernel
theorem d_Cp_goDeeper_21 : decode b_Cp_goDeeper 21 = .ok (.invokevirtual 99, 3) := by decide +kernel
theorem d_Cp_goDeeper_24 : decode b_Cp_goDeeper 24 = .ok (.return_, 1) := by decide +kernel
theorem d_Cp_assignment_0 : decode b_Cp_assignment 0 = .ok (.aload_n 0, 1) := by decide +kernel
theorem d_Cp_assignment_1 : decode b_Cp_assignment 1 = .ok (.getfield 21, 3) := by decide +kernel
theorem d_Cp_assignment_4 : decode b_Cp_assignment 4 = .ok (.aload_n 0, 1) := by decide +kernel
theorem d_Cp_assignment_5 : decode b_Cp_assignment 5 = .ok (.getfield 12, 3) := by decide +kernel
theorem d_Cp_assignment_8 : decode b_Cp_assignment 8 = .ok (.invokevirtual 91, 3) := by decide +kernel
theorem d_Cp_assignment_11 : decode b_Cp_assignment 11 = .ok (.invokevirtual 204, 3) := by decide +kernel
theorem d_Cp_assignment_14 : decode b_Cp_assignment 14 = .ok (.istore_n 1, 1) := by decide +kernel
theorem d_Cp_assignment_15 : decode b_Cp_assignment 15 = .ok (.iload_n 1, 1) := by decide +kernel
theorem d_Cp_assignment_16 : decode b_Cp_assignment 16 = .ok (.ifCond .lt 14, 3) := by decide +kernel
theorem d_Cp_assignment_19 : decode b_Cp_assignment 19 = .ok (.aload_n 0, 1) := by decide +kernel
theorem d_Cp_assignment_20 : decode b_Cp_assignment 20 = .ok (.getfield 21, 3) := by decide +kernel
theorem d_Cp_assignment_23 : decode b_Cp_assignment 23 = .ok (.iload_n 1, 1) := by decide +kernel
theorem d_Cp_assignment_24 : decode b_Cp_assignment 24 = .ok (.invokevirtual 208, 3) := by decide +kernel
theorem d_Cp_assignment_27 : decode b_Cp_assignment 27 = .ok (.ifCond .eq 14, 3) := by decide +kernel
theorem d_Cp_assignment_30 : decode b_Cp_assignment 30 = .ok (.aload_n 0, 1) := by decide +kernel
theorem d_Cp_assignment_31 : decode b_Cp_assignment 31 = .ok (.aload_n 0, 1) := by decide +kernel
theorem d_Cp_assignment_32 : decode b_Cp_assignment 32 = .ok (.getfield 12, 3) := by decide +kernel
theorem d_Cp_assignment_35 : decode b_Cp_assignment 35 = .ok (.invokevirtual 70, 3) := by decide +kernel
theorem d_Cp_assignment_38 : decode b_Cp_assignment 38 = .ok (.invokevirtual 74, 3) := by decide +kernel
theorem d_Cp_assignment_41 : decode b_Cp_assignment 41 = .ok (.aload_n 0, 1) := by decide +kernel
theorem d_Cp_assignment_42 : decode b_Cp_assignment 42 = .ok (.getfield 28, 3) := by decide +kernel
theorem d_Cp_assignment_45 : decode b_Cp_assignment 45 = .ok (.iconst 0, 1) := by decide +kernel
theorem d_Cp_assignment_46 : decode b_Cp_assignment 46 = .ok (.iconst 0, 1) := by decide +kernel
theorem d_Cp_assignment_47 : decode b_Cp_assignment 47 = .ok (.iconst 0, 1) := by decide +kernel
theorem d_Cp_assignment_48 : decode b_Cp_assignment 48 = .ok (.invokevirtual 120, 3) := by decide +kernel
theorem d_Cp_assignment_51 : decode b_Cp_assignment 51 = .ok (.pop, 1) := by decide +kernel
theorem d_Cp_assignment_52 : decode b_Cp_assignment 52 = .ok (.aload_n 0, 1) := by decide +kernel
theorem d_Cp_assignment_53 : decode b_Cp_assignment 53 = .ok (.getfield 12, 3) := by decide +kernel
theorem d_Cp_assignment_56 : decode b_Cp_assignment 56 = .ok (.invokevirtual 99, 3) := by decide +kernel
theorem d_Cp_assignment_59 : decode b_Cp_assignment 59 = .ok (.aload_n 0, 1) := by decide +kernel
theorem d_Cp_assignment_60 : decode b_Cp_assignment 60 = .ok (.getstatic 180, 3) := by decide +kernel
theorem d_Cp_assignment_63 : decode b_Cp_assignment 63 = .ok (.invokevirtual 59, 3) := by decide +kernel
theorem d_Cp_assignment_66 : decode b_Cp_assignment 66 = .ok (.aload_n 0, 1) := by decide +kernel
theorem d_Cp_assignment_67 : decode b_Cp_assignment 67 = .ok (.iconst 0, 1) := by decide +kernel
theorem d_Cp_assignment_68 : decode b_Cp_assignment 68 = .ok (.invokevirtual 212, 3) := by decide +kernel
theorem d_Cp_assignment_71 : decode b_Cp_assignment 71 = .ok (.aload_n 0, 1) := by decide +kernel
theorem d_Cp_assignment_72 : decode b_Cp_assignment 72 = .ok (.getfield 21, 3) := by decide +kernel
theorem d_Cp_assignment_75 : decode b_Cp_assignment 75 = .ok (.iload_n 1, 1) := by decide +kernel
theorem d_Cp_assignment_76 : decode b_Cp_assignment 76 = .ok (.invokevirtual 215, 3) := by decide +kernel
theorem d_Cp_assignment_79 : decode b_Cp_assignment 79 = .ok (.ifCond .eq 8, 3) := by decide +kernel
theorem d_Cp_assignment_82 : decode b_Cp_assignment 82 = .ok (.bipush 6, 2) := by decide +kernel
theorem d_Cp_assignment_84 : decode b_Cp_assignment 84 = .ok (.goto 4, 3) := by decide +kernel
theorem d_Cp_assignment_87 : decode b_Cp_assignment 87 = .ok (.iconst 5, 1) := by decide +kernel
theorem d_Cp_assignment_88 : decode b_Cp_assignment 88 = .ok (.istore_n 2, 1) := by decide +kernel
theorem d_Cp_assignment_89 : decode b_Cp_assignment 89 = .ok (.aload_n 0, 1) := by decide +kernel
theorem d_Cp_assignment_90 : decode b_Cp_assignment 90 = .ok (.getfield 28, 3) := by decide +kernel
theorem d_Cp_assignment_93 : decode b_Cp_assignment 93 = .ok (.iload_n 2, 1) := by decide +kernel
theorem d_Cp_assignment_94 : decode b_Cp_assignment 94 = .ok (.aload_n 0, 1) := by decide +kernel
theorem d_Cp_assignment_95 : decode b_Cp_assignment 95 = .ok (.getfield 21, 3) := by decide +kernel
theorem d_Cp_assignment_98 : decode b_Cp_assignment 98 = .ok (.iload_n 1, 1) := by decide +kernel
theorem d_Cp_assignment_99 : decode b_Cp_assignment 99 = .ok (.invokevirtual 218, 3) := by decide +kernel
theorem d_Cp_assignment_102 : decode b_Cp_assignment 102 = .ok (.aload_n 0, 1) := by decide +kernel
theorem d_Cp_assignment_103 : decode b_Cp_assignment 103 = .ok (.getfield 21, 3) := by decide +kernel
theorem d_Cp_assignment_106 : decode b_Cp_assignment 106 = .ok (.iload_n 1, 1) := by decide +kernel
theorem d_Cp_assignment_107 : decode b_Cp_assignment 107 = .ok (.invokevirtual 221, 3) := by decide +kernel
theorem d_Cp_assignment_110 : decode b_Cp_assignment 110 = .ok (.invokevirtual 120, 3) := by decide +kernel
theorem d_Cp_assignment_113 : decode b_Cp_assignment 113 = .ok (.pop, 1) := by decide +kernel
theorem d_Cp_assignment_114 : decode b_Cp_assignment 114 = .ok (.return_, 1) := by decide +kernel
theorem d_Cp_procedureCall_0 : decode b_Cp_procedureCall 0 = .ok (.aload_n 0, 1) := by decide +kernel
theorem d_Cp_procedureCall_1 : decode b_Cp_procedureCall 1 = .ok (.getfield 12, 3) := by decide +kernel
theorem d_Cp_procedureCall_4 : decode b_Cp_procedureCall 4 = .ok (.invokevirtual 70, 3) := by decide +kernel
theorem d_Cp_procedureCall_7 : decode b_Cp_procedureCall 7 = .ok (.istore_n 1, 1) := by decide +kernel
theorem d_Cp_procedureCall_8 : decode b_Cp_procedureCall 8 = .ok (.aload_n 0, 1) := by decide +kernel
theorem d_Cp_procedureCall_9 : decode b_Cp_procedureCall 9 = .ok (.getfield 21, 3) := by decide +kernel
theorem d_Cp_procedureCall_12 : decode b_Cp_procedureCall 12 = .ok (.aload_n 0, 1) := by decide +kernel
theorem d_Cp_procedureCall_13 : decode b_Cp_procedureCall 13 = .ok (.getfield 12, 3) := by decide +kernel
theorem d_Cp_procedureCall_16 : decode b_Cp_procedureCall 16 = .ok (.invokevirtual 91, 3) := by decide +kernel
theorem d_Cp_procedureCall_19 : decode b_Cp_procedureCall 19 = .ok (.invokevirtual 204, 3) := by decide +kernel
theorem d_Cp_procedureCall_22 : decode b_Cp_procedureCall 22 = .ok (.istore_n 2, 1) := by decide +kernel
theorem d_Cp_procedureCall_23 : decode b_Cp_procedureCall 23 = .ok (.iload_n 2, 1) := by decide +kernel
theorem d_Cp_procedureCall_24 : decode b_Cp_procedureCall 24 = .ok (.ifCond .lt 14, 3) := by decide +kernel
theorem d_Cp_procedureCall_27 : decode b_Cp_procedureCall 27 = .ok (.aload_n 0, 1) := by decide +kernel
theorem d_Cp_procedureCall_28 : decode b_Cp_procedureCall 28 = .ok (.getfield 21, 3) := by decide +kernel
theorem d_Cp_procedureCall_31 : decode b_Cp_procedureCall 31 = .ok (.iload_n 2, 1) := by decide +kernel
theorem d_Cp_procedureCall_32 : decode b_Cp_procedureCall 32 = .ok (.invokevirtual 208, 3) := by decide +kernel
theorem d_Cp_procedureCall_35 : decode b_Cp_procedureCall 35 = .ok (.ifCond .ne 8, 3) := by decide +kernel
theorem d_Cp_procedureCall_38 : decode b_Cp_procedureCall 38 = .ok (.aload_n 0, 1) := by decide +kernel
theorem d_Cp_procedureCall_39 : decode b_Cp_procedureCall 39 = .ok (.iload_n 1, 1) := by decide +kernel
theorem d_Cp_procedureCall_40 : decode b_Cp_procedureCall 40 = .ok (.invokevirtual 74, 3) := by decide +kernel
theorem d_Cp_procedureCall_43 : decode b_Cp_procedureCall 43 = .ok (.aload_n 0, 1) := by decide +kernel
theorem d_Cp_procedureCall_44 : decode b_Cp_procedureCall 44 = .ok (.getfield 28, 3) := by decide +kernel
theorem d_Cp_procedureCall_47 : decode b_Cp_procedureCall 47 = .ok (.iconst 0, 1) := by decide +kernel
theorem d_Cp_procedureCall_48 : decode b_Cp_procedureCall 48 = .ok (.iconst 0, 1) := by decide +kernel
theorem d_Cp_procedureCall_49 : decode b_Cp_procedureCall 49 = .ok (.iconst 0, 1) := by decide +kernel
theorem d_Cp_procedureCall_50 : decode b_Cp_procedureCall 50 = .ok (.invokevirtual 120, 3) := by decide +kernel
theorem d_Cp_procedureCall_53 : decode b_Cp_procedureCall 53 = .ok (.pop, 1) := by decide +kernel
theorem d_Cp_procedureCall_54 : decode b_Cp_procedureCall 54 = .ok (.aload_n 0, 1) := by decide +kernel
theorem d_Cp_procedureCall_55 : decode b_Cp_procedureCall 55 = .ok (.getfield 12, 3) := by decide +kernel
theorem d_Cp_procedureCall_58 : decode b_Cp_procedureCall 58 = .ok (.invokevirtual 99, 3) := by decide +kernel
theorem d_Cp_procedureCall_61 : decode b_Cp_procedureCall 61 = .ok (.aload_n 0, 1) := by decide +kernel
theorem d_Cp_procedureCall_62 : decode b_Cp_procedureCall 62 = .ok (.getfield 21, 3) := by decide +kernel
theorem d_Cp_procedureCall_65 : decode b_Cp_procedureCall 65 = .ok (.iload_n 2, 1) := by decide +kernel
theorem d_Cp_procedureCall_66 : decode b_Cp_procedureCall 66 = .ok (.invokevirtual 221, 3) := by decide +kernel
theorem d_Cp_procedureCall_69 : decode b_Cp_procedureCall 69 = .ok (.istore_n 3, 1) := by decide +kernel
theorem d_Cp_procedureCall_70 : decode b_Cp_procedureCall 70 = .ok (.aload_n 0, 1) := by decide +kernel
theorem d_Cp_procedureCall_71 : decode b_Cp_procedureCall 71 = .ok (.iload_n 3, 1) := by decide +kernel
theorem d_Cp_procedureCall_72 : decode b_Cp_procedureCall 72 = .ok (.invokevirtual 224, 3) := by decide +kernel
theorem d_Cp_procedureCall_75 : decode b_Cp_procedureCall 75 = .ok (.aload_n 0, 1) := by decide +kernel
theorem d_Cp_procedureCall_76 : decode b_Cp_procedureCall 76 = .ok (.getfield 28, 3) := by decide +kernel
theorem d_Cp_procedureCall_79 : decode b_Cp_procedureCall 79 = .ok (.getfield 136, 3) := by decide +kernel
theorem d_Cp_procedureCall_82 : decode b_Cp_procedureCall 82 = .ok (.iload_n 3, 1) := by decide +kernel
theorem d_Cp_procedureCall_83 : decode b_Cp_procedureCall 83 = .ok (.iaload, 1) := by decide +kernel
theorem d_Cp_procedureCall_84 : decode b_Cp_procedureCall 84 = .ok (.if_icmp .eq 8, 3) := by decide +kernel
theorem d_Cp_procedureCall_87 : decode b_Cp_procedureCall 87 = .ok (.aload_n 0, 1) := by decide +kernel
theorem d_Cp_procedureCall_88 : decode b_Cp_procedureCall 88 = .ok (.iload_n 1, 1) := by decide +kernel
theorem d_Cp_procedureCall_89 : decode b_Cp_procedureCall 89 = .ok (.invokevirtual 74, 3) := by decide +kernel
theorem d_Cp_procedureCall_92 : decode b_Cp_procedureCall 92 = .ok (.aload_n 0, 1) := by decide +kernel
theorem d_Cp_procedureCall_93 : decode b_Cp_procedureCall 93 = .ok (.getfield 28, 3) := by decide +kernel
theorem d_Cp_procedureCall_96 : decode b_Cp_procedureCall 96 = .ok (.bipush 18, 2) := by decide +kernel
theorem d_Cp_procedureCall_98 : decode b_Cp_procedureCall 98 = .ok (.aload_n 0, 1) := by decide +kernel
theorem d_Cp_procedureCall_99 : decode b_Cp_procedureCall 99 = .ok (.getfield 21, 3) := by decide +kernel
theorem d_Cp_procedureCall_102 : decode b_Cp_procedureCall 102 = .ok (.iload_n 2, 1) := by decide +kernel
theorem d_Cp_procedureCall_103 : decode b_Cp_procedureCall 103 = .ok (.invokevirtual 218, 3) := by decide +kernel
theorem d_Cp_procedureCall_106 : decode b_Cp_procedureCall 106 = .ok (.iload_n 3, 1) := by decide +kernel
theorem d_Cp_procedureCall_107 : decode b_Cp_procedureCall 107 = .ok (.invokevirtual 120, 3) := by decide +kernel
theorem d_Cp_procedureCall_110 : decode b_Cp_procedureCall 110 = .ok (.pop, 1) := by decide +kernel
theorem d_Cp_procedureCall_111 : decode b_Cp_procedureCall 111 = .ok (.return_, 1) := by decide +kernel
theorem d_Cp_arguments_0 : decode b_Cp_arguments 0 = .ok (.aload_n 0, 1) := by decide +kernel
theorem d_Cp_arguments_1 : decode b_Cp_arguments 1 = .ok (.getfield 12, 3) := by decide +kernel
theorem d_Cp_arguments_4 : decode b_Cp_arguments 4 = .ok (.getstatic 146, 3) := by decide +kernel
theorem d_Cp_arguments_7 : decode b_Cp_arguments 7 = .ok (.invokevirtual 84, 3) := by decide +kernel
theorem d_Cp_arguments_10 : decode b_Cp_arguments 10 = .ok (.ifCond .ne 5, 3) := by decide +kernel
theorem d_Cp_arguments_13 : decode b_Cp_arguments 13 = .ok (.iconst 0, 1) := by decide +kernel
theorem d_Cp_arguments_14 : decode b_Cp_arguments 14 = .ok (.ireturn, 1) := by decide +kernel
theorem d_Cp_arguments_15 : decode b_Cp_arguments 15 = .ok (.iconst 0, 1) := by decide +kernel
theorem d_Cp_arguments_16 : decode b_Cp_arguments 16 = .ok (.istore_n 2, 1) := by decide +kernel
theorem d_Cp_arguments_17 : decode b_Cp_arguments 17 = .ok (.iconst 1, 1) := by decide +kernel
theorem d_Cp_arguments_18 : decode b_Cp_arguments 18 = .ok (.istore_n 3, 1) := by decide +kernel
theorem d_Cp_arguments_19 : decode b_Cp_arguments 19 = .ok (.iload_n 3, 1) := by decide +kernel
theorem d_Cp_arguments_20 : decode b_Cp_arguments 20 = .ok (.ifCond .eq 116, 3) := by decide +kernel
theorem d_Cp_arguments_23 : decode b_Cp_arguments 23 = .ok (.iload_n 2, 1) := by decide +kernel
theorem d_Cp_arguments_24 : decode b_Cp_arguments 24 = .ok (.sipush 150, 3) := by decide +kernel
theorem d_Cp_arguments_27 : decode b_Cp_arguments 27 = .ok (.if_icmp .ge 109, 3) := by decide +kernel
theorem d_Cp_arguments_30 : decode b_Cp_arguments 30 = .ok (.aload_n 0, 1) := by decide +kernel
theorem d_Cp_arguments_31 : decode b_Cp_arguments 31 = .ok (.getfield 12, 3) := by decide +kernel
theorem d_Cp_arguments_34 : decode b_Cp_arguments 34 = .ok (.invokevirtual 63, 3) := by decide +kernel
theorem d_Cp_arguments_37 : decode b_Cp_arguments 37 = .ok (.getstatic 88, 3) := by decide +kernel
theorem d_Cp_arguments_40 : decode b_Cp_arguments 40 = .ok (.if_acmp .ne 7, 3) := by decide +kernel
theorem d_Cp_arguments_43 : decode b_Cp_arguments 43 = .ok (.iconst 1, 1) := by decide +kernel
theorem d_Cp_arguments_44 : decode b_Cp_arguments 44 = .ok (.goto 4, 3) := by decide +kernel
theorem d_Cp_arguments_47 : decode b_Cp_arguments 47 = .ok (.iconst 0, 1) := by decide +kernel
theorem d_Cp_arguments_48 : decode b_Cp_arguments 48 = .ok (.istore 4, 2) := by decide +kernel
theorem d_Cp_arguments_50 : decode b_Cp_arguments 50 = .ok (.aload_n 0, 1) := by decide +kernel
theorem d_Cp_arguments_51 : decode b_Cp_arguments 51 = .ok (.getfield 12, 3) := by decide +kernel
theorem d_Cp_arguments_54 : decode b_Cp_arguments 54 = .ok (.invokevirtual 70, 3) := by decide +kernel
theorem d_Cp_arguments_57 : decode b_Cp_arguments 57 = .ok (.istore 5, 2) := by decide +kernel
theorem d_Cp_arguments_59 : decode b_Cp_arguments 59 = .ok (.aload_n 0, 1) := by decide +kernel
theorem d_Cp_arguments_60 : decode b_Cp_arguments 60 = .ok (.getfield 28, 3) := by decide +kernel
theorem d_Cp_arguments_63 : decode b_Cp_arguments 63 = .ok (.getfield 43, 3) := by decide +kernel
theorem d_Cp_arguments_66 : decode b_Cp_arguments 66 = .ok (.istore 6, 2) := by decide +kernel
theorem d_Cp_arguments_68 : decode b_Cp_arguments 68 = .ok (.aload_n 0, 1) := by decide +kernel
theorem d_Cp_arguments_69 : decode b_Cp_arguments 69 = .ok (.iconst 0, 1) := by decide +kernel
theorem d_Cp_arguments_70 : decode b_Cp_arguments 70 = .ok (.invokevirtual 212, 3) := by decide +kernel
theorem d_Cp_arguments_73 : decode b_Cp_arguments 73 = .ok (.aload_n 0, 1) := by decide +kernel
theorem d_Cp_arguments_74 : decode b_Cp_arguments 74 = .ok (.getfield 28, 3) := by decide +kernel
theorem d_Cp_arguments_77 : decode b_Cp_arguments 77 = .ok (.iload_n 1, 1) := by decide +kernel
theorem d_Cp_arguments_78 : decode b_Cp_arguments 78 = .ok (.iload_n 2, 1) := by decide +kernel
theorem d_Cp_arguments_79 : decode b_Cp_arguments 79 = .ok (.invokevirtual 227, 3) := by decide +kernel
theorem d_Cp_arguments_82 : decode b_Cp_arguments 82 = .ok (.ifCond .eq 37, 3) := by decide +kernel
theorem d_Cp_arguments_85 : decode b_Cp_arguments 85 = .ok (.iload 4, 2) := by decide +kernel
theorem d_Cp_arguments_87 : decode b_Cp_arguments 87 = .ok (.ifCond .eq 17, 3) := by decide +kernel
theorem d_Cp_arguments_90 : decode b_Cp_arguments 90 = .ok (.aload_n 0, 1) := by decide +kernel
theorem d_Cp_arguments_91 : decode b_Cp_arguments 91 = .ok (.getfield 28, 3) := by decide +kernel
theorem d_Cp_arguments_94 : decode b_Cp_arguments 94 = .ok (.getfield 43, 3) := by decide +kernel
theorem d_Cp_arguments_97 : decode b_Cp_arguments 97 = .ok (.iload 6, 2) := by decide +kernel
theorem d_Cp_arguments_99 : decode b_Cp_arguments 99 = .ok (.iconst 1, 1) := by decide +kernel
theorem d_Cp_arguments_100 : decode b_Cp_arguments 100 = .ok (.iadd, 1) := by decide +kernel
theorem d_Cp_arguments_101 : decode b_Cp_arguments 101 = .ok (.if_icmp .eq 9, 3) := by decide +kernel
theorem d_Cp_arguments_104 : decode b_Cp_arguments 104 = .ok (.aload_n 0, 1) := by decide +kernel
theorem d_Cp_arguments_105 : decode b_Cp_arguments 105 = .ok (.iload 5, 2) := by decide +kernel
theorem d_Cp_arguments_107 : decode b_Cp_arguments 107 = .ok (.invokevirtual 74, 3) := by decide +kernel
theorem d_Cp_arguments_110 : decode b_Cp_arguments 110 = .ok (.aload_n 0, 1) := by decide +kernel
theorem d_Cp_arguments_111 : decode b_Cp_arguments 111 = .ok (.getfield 28, 3) := by decide +kernel
theorem d_Cp_arguments_114 : decode b_Cp_arguments 114 = .ok (.iload 6, 2) := by decide +kernel
theorem d_Cp_arguments_116 : decode b_Cp_arguments 116 = .ok (.invokevirtual 230, 3) := by decide +kernel
theorem d_Cp_arguments_119 : decode b_Cp_arguments 119 = .ok (.iinc 2 1, 3) := by decide +kernel
theorem d_Cp_arguments_122 : decode b_Cp_arguments 122 = .ok (.aload_n 0, 1) := by decide +kernel
theorem d_Cp_arguments_123 : decode b_Cp_arguments 123 = .ok (.getfield 12, 3) := by decide +kernel
theorem d_Cp_arguments_126 : decode b_Cp_arguments 126 = .ok (.getstatic 127, 3) := by decide +kernel
theorem d_Cp_arguments_129 : decode b_Cp_arguments 129 = .ok (.invokevirtual 84, 3) := by decide +kernel
theorem d_Cp_arguments_132 : decode b_Cp_arguments 132 = .ok (.istore_n 3, 1) := by decide +kernel
theorem d_Cp_arguments_133 : decode b_Cp_arguments 133 = .ok (.goto (-114), 3) := by decide +kernel
theorem d_Cp_arguments_136 : decode b_Cp_arguments 136 = .ok (.aload_n 0, 1) := by decide +kernel
theorem d_Cp_arguments_137 : decode b_Cp_arguments 137 = .ok (.getstatic 160, 3) := by decide +kernel
theorem d_Cp_arguments_140 : decode b_Cp_arguments 140 = .ok (.invokevirtual 59, 3) := by decide +kernel
theorem d_Cp_arguments_143 : decode b_Cp_arguments 143 = .ok (.iload_n 2, 1) := by decide +kernel
theorem d_Cp_arguments_144 : decode b_Cp_arguments 144 = .ok (.ireturn, 1) := by decide +kernel
theorem d_Cp_ifStatement_0 : decode b_Cp_ifStatement 0 = .ok (.aload_n 0, 1) := by decide +kernel
theorem d_Cp_ifStatement_1 : decode b_Cp_ifStatement 1 = .ok (.getfield 28, 3) := by decide +kernel
theorem d_Cp_ifStatement_4 : decode b_Cp_ifStatement 4 = .ok (.iconst 0, 1) := by decide +kernel
theorem d_Cp_ifStatement_5 : decode b_Cp_ifStatement 5 = .ok (.iconst 0, 1) := by decide +kernel
theorem d_Cp_ifStatement_6 : decode b_Cp_ifStatement 6 = .ok (.iconst 0, 1) := by decide +kernel
theorem d_Cp_ifStatement_7 : decode b_Cp_ifStatement 7 = .ok (.invokevirtual 120, 3) := by decide +kernel
theorem d_Cp_ifStatement_10 : decode b_Cp_ifStatement 10 = .ok (.pop, 1) := by decide +kernel
theorem d_Cp_ifStatement_11 : decode b_Cp_ifStatement 11 = .ok (.aload_n 0, 1) := by decide +kernel
theorem d_Cp_ifStatement_12 : decode b_Cp_ifStatement 12 = .ok (.invokevirtual 233, 3) := by decide +kernel
theorem d_Cp_ifStatement_15 : decode b_Cp_ifStatement 15 = .ok (.istore_n 2, 1) := by decide +kernel
theorem d_Cp_ifStatement_16 : decode b_Cp_ifStatement 16 = .ok (.aload_n 0, 1) := by decide +kernel
theorem d_Cp_ifStatement_17 : decode b_Cp_ifStatement 17 = .ok (.getstatic 236, 3) := by decide +kernel
theorem d_Cp_ifStatement_20 : decode b_Cp_ifStatement 20 = .ok (.invokevirtual 59, 3) := by decide +kernel
theorem d_Cp_ifStatement_23 : decode b_Cp_ifStatement 23 = .ok (.aload_n 0, 1) := by decide +kernel
theorem d_Cp_ifStatement_24 : decode b_Cp_ifStatement 24 = .ok (.iload_n 1, 1) := by decide +kernel
theorem d_Cp_ifStatement_25 : decode b_Cp_ifStatement 25 = .ok (.invokevirtual 166, 3) := by decide +kernel
theorem d_Cp_ifStatement_28 : decode b_Cp_ifStatement 28 = .ok (.aload_n 0, 1) := by decide +kernel
theorem d_Cp_ifStatement_29 : decode b_Cp_ifStatement 29 = .ok (.getfield 12, 3) := by decide +kernel
theorem d_Cp_ifStatement_32 : decode b_Cp_ifStatement 32 = .ok (.getstatic 239, 3) := by decide +kernel
theorem d_Cp_ifStatement_35 : decode b_Cp_ifStatement 35 = .ok (.invokevirtual 84, 3) := by decide +kernel
theorem d_Cp_ifStatement_38 : decode b_Cp_ifStatement 38 = .ok (.ifCond .eq 39, 3) := by decide +kernel
theorem d_Cp_ifStatement_41 : decode b_Cp_ifStatement 41 = .ok (.aload_n 0, 1) := by decide +kernel
theorem d_Cp_ifStatement_42 : decode b_Cp_ifStatement 42 = .ok (.getfield 28, 3) := by decide +kernel
theorem d_Cp_ifStatement_45 : decode b_Cp_ifStatement 45 = .ok (.bipush 16, 2) := by decide +kernel
theorem d_Cp_ifStatement_47 : decode b_Cp_ifStatement 47 = .ok (.iconst 0, 1) := by decide +kernel
theorem d_Cp_ifStatement_48 : decode b_Cp_ifStatement 48 = .ok (.iconst 0, 1) := by decide +kernel
theorem d_Cp_ifStatement_49 : decode b_Cp_ifStatement 49 = .ok (.invokevirtual 120, 3) := by decide +kernel
theorem d_Cp_ifStatement_52 : decode b_Cp_ifStatement 52 = .ok (.istore_n 3, 1) := by decide +kernel
theorem d_Cp_ifStatement_53 : decode b_Cp_ifStatement 53 = .ok (.aload_n 0, 1) := by decide +kernel
theorem d_Cp_ifStatement_54 : decode b_Cp_ifStatement 54 = .ok (.getfield 28, 3) := by decide +kernel
theorem d_Cp_ifStatement_57 : decode b_Cp_ifStatement 57 = .ok (.iload_n 2, 1) := by decide +kernel
theorem d_Cp_ifStatement_58 : decode b_Cp_ifStatement 58 = .ok (.invokevirtual 242, 3) := by decide +kernel
theorem d_Cp_ifStatement_61 : decode b_Cp_ifStatement 61 = .ok (.aload_n 0, 1) := by decide +kernel
theorem d_Cp_ifStatement_62 : decode b_Cp_ifStatement 62 = .ok (.iload_n 1, 1) := by decide +kernel
theorem d_Cp_ifStatement_63 : decode b_Cp_ifStatement 63 = .ok (.invokevirtual 166, 3) := by decide +kernel
theorem d_Cp_ifStatement_66 : decode b_Cp_ifStatement 66 = .ok (.aload_n 0, 1) := by decide +kernel
theorem d_Cp_ifStatement_67 : decode b_Cp_ifStatement 67 = .ok (.getfield 28, 3) := by decide +kernel
theorem d_Cp_ifStatement_70 : decode b_Cp_ifStatement 70 = .ok (.iload_n 3, 1) := by decide +kernel
theorem d_Cp_ifStatement_71 : decode b_Cp_ifStatement 71 = .ok (.invokevirtual 242, 3) := by decide +kernel
theorem d_Cp_ifStatement_74 : decode b_Cp_ifStatement 74 = .ok (.goto 11, 3) := by decide +kernel
theorem d_Cp_ifStatement_77 : decode b_Cp_ifStatement 77 = .ok (.aload_n 0, 1) := by decide +kernel
theorem d_Cp_ifStatement_78 : decode b_Cp_ifStatement 78 = .ok (.getfield 28, 3) := by decide +kernel
theorem d_Cp_ifStatement_81 : decode b_Cp_ifStatement 81 = .ok (.iload_n 2, 1) := by decide +kernel
theorem d_Cp_ifStatement_82 : decode b_Cp_ifStatement 82 = .ok (.invokevirtual 242, 3) := by decide +kernel
theorem d_Cp_ifStatement_85 : decode b_Cp_ifStatement 85 = .ok (.return_, 1) := by decide +kernel
theorem d_Cp_whileStatement_0 : decode b_Cp_whileStatement 0 = .ok (.aload_n 0, 1) := by decide +kernel
theorem d_Cp_whileStatement_1 : decode b_Cp_whileStatement 1 = .ok (.getfield 28, 3) := by decide +kernel
theorem d_Cp_whileStatement_4 : decode b_Cp_whileStatement 4 = .ok (.iconst 0, 1) := by decide +kernel
theorem d_Cp_whileStatement_5 : decode b_Cp_whileStatement 5 = .ok (.iconst 0, 1) := by decide +kernel
theorem d_Cp_whileStatement_6 : decode b_Cp_whileStatement 6 = .ok (.iconst 0, 1) := by decide +kernel
theorem d_Cp_whileStatement_7 : decode b_Cp_whileStatement 7 = .ok (.invokevirtual 120, 3) := by decide +kernel
theorem d_Cp_whileStatement_10 : decode b_Cp_whileStatement 10 = .ok (.istore_n 2, 1) := by decide +kernel
theorem d_Cp_whileStatement_11 : decode b_Cp_whileStatement 11 = .ok (.aload_n 0, 1) := by decide +kernel
theorem d_Cp_whileStatement_12 : decode b_Cp_whileStatement 12 = .ok (.invokevirtual 233, 3) := by decide +kernel
theorem d_Cp_whileStatement_15 : decode b_Cp_whileStatement 15 = .ok (.istore_n 3, 1) := by decide +kernel
theorem d_Cp_whileStatement_16 : decode b_Cp_whileStatement 16 = .ok (.aload_n 0, 1) := by decide +kernel
theorem d_Cp_whileStatement_17 : decode b_Cp_whileStatement 17 = .ok (.getstatic 245, 3) := by decide +kernel
theorem d_Cp_whileStatement_20 : decode b_Cp_whileStatement 20 = .ok (.invokevirtual 59, 3) := by decide +kernel
theorem d_Cp_whileStatement_23 : decode b_Cp_whileStatement 23 = .ok (.aload_n 0, 1) := by decide +kernel
theorem d_Cp_whileStatement_24 : decode b_Cp_whileStatement 24 = .ok (.iload_n 1, 1) := by decide +kernel
theorem d_Cp_whileStatement_25 : decode b_Cp_whileStatement 25 = .ok (.invokevirtual 166, 3) := by decide +kernel
theorem d_Cp_whileStatement_28 : decode b_Cp_whileStatement 28 = .ok (.aload_n 0, 1) := by decide +kernel
theorem d_Cp_whileStatement_29 : decode b_Cp_whileStatement 29 = .ok (.getfield 28, 3) := by decide +kernel
theorem d_Cp_whileStatement_32 : decode b_Cp_whileStatement 32 = .ok (.bipush 16, 2) := by decide +kernel
theorem d_Cp_whileStatement_34 : decode b_Cp_whileStatement 34 = .ok (.iload_n 2, 1) := by decide +kernel
theorem d_Cp_whileStatement_35 : decode b_Cp_whileStatement 35 = .ok (.iconst 0, 1) := by decide +kernel
theorem d_Cp_whileStatement_36 : decode b_Cp_whileStatement 36 = .ok (.invokevirtual 120, 3) := by decide +kernel
theorem d_Cp_whileStatement_39 : decode b_Cp_whileStatement 39 = .ok (.pop, 1) := by decide +kernel
theorem d_Cp_whileStatement_40 : decode b_Cp_whileStatement 40 = .ok (.aload_n 0, 1) := by decide +kernel
theorem d_Cp_whileStatement_41 : decode b_Cp_whileStatement 41 = .ok (.getfield 28, 3) := by decide +kernel
theorem d_Cp_whileStatement_44 : decode b_Cp_whileStatement 44 = .ok (.iload_n 3, 1) := by decide +kernel
theorem d_Cp_whileStatement_45 : decode b_Cp_whileStatement 45 = .ok (.invokevirtual 242, 3) := by decide +kernel
theorem d_Cp_whileStatement_48 : decode b_Cp_whileStatement 48 = .ok (.return_, 1) := by decide +kernel
theorem d_Cp_writeStatement_0 : decode b_Cp_writeStatement 0 = .ok (.aload_n 0, 1) := by decide +kernel
theorem d_Cp_writeStatement_1 : decode b_Cp_writeStatement 1 = .ok (.getfield 28, 3) := by decide +kernel
theorem d_Cp_writeStatement_4 : decode b_Cp_writeStatement 4 = .ok (.iconst 0, 1) := by decide +kernel
theorem d_Cp_writeStatement_5 : decode b_Cp_writeStatement 5 = .ok (.iconst 0, 1) := by decide +kernel
theorem d_Cp_writeStatement_6 : decode b_Cp_writeStatement 6 = .ok (.iconst 0, 1) := by decide +kernel
theorem d_Cp_writeStatement_7 : decode b_Cp_writeStatement 7 = .ok (.invokevirtual 120, 3) := by decide +kernel
theorem d_Cp_writeStatement_10 : decode b_Cp_writeStatement 10 = .ok (.pop, 1) := by decide +kernel
theorem d_Cp_writeStatement_11 : decode b_Cp_writeStatement 11 = .ok (.aload_n 0, 1) := by decide +kernel
theorem d_Cp_writeStatement_12 : decode b_Cp_writeStatement 12 = .ok (.getstatic 146, 3) := by decide +kernel
theorem d_Cp_writeStatement_15 : decode b_Cp_writeStatement 15 = .ok (.invokevirtual 59, 3) := by decide +kernel
theorem d_Cp_writeStatement_18 : decode b_Cp_writeStatement 18 = .ok (.aload_n 0, 1) := by decide +kernel
theorem d_Cp_writeStatement_19 : decode b_Cp_writeStatement 19 = .ok (.iconst 0, 1) := by decide +kernel
theorem d_Cp_writeStatement_20 : decode b_Cp_writeStatement 20 = .ok (.invokevirtual 212, 3) := by decide +kernel
theorem d_Cp_writeStatement_23 : decode b_Cp_writeStatement 23 = .ok (.aload_n 0, 1) := by decide +kernel
theorem d_Cp_writeStatement_24 : decode b_Cp_writeStatement 24 = .ok (.getstatic 160, 3) := by decide +kernel
theorem d_Cp_writeStatement_27 : decode b_Cp_writeStatement 27 = .ok (.invokevirtual 59, 3) := by decide +kernel
theorem d_Cp_writeStatement_30 : decode b_Cp_writeStatement 30 = .ok (.aload_n 0, 1) := by decide +kernel
theorem d_Cp_writeStatement_31 : decode b_Cp_writeStatement 31 = .ok (.getfield 28, 3) := by decide +kernel
theorem d_Cp_writeStatement_34 : decode b_Cp_writeStatement 34 = .ok (.bipush 20, 2) := by decide +kernel
theorem d_Cp_writeStatement_36 : decode b_Cp_writeStatement 36 = .ok (.iconst 0, 1) := by decide +kernel
theorem d_Cp_writeStatement_37 : decode b_Cp_writeStatement 37 = .ok (.iconst 0, 1) := by decide +kernel
theorem d_Cp_writeStatement_38 : decode b_Cp_writeStatement 38 = .ok (.invokevirtual 120, 3) := by decide +kernel
theorem d_Cp_writeStatement_41 : decode b_Cp_writeStatement 41 = .ok (.pop, 1) := by decide +kernel
theorem d_Cp_writeStatement_42 : decode b_Cp_writeStatement 42 = .ok (.return_, 1) := by decide +kernel
theorem d_Cp_condition_0 : decode b_Cp_condition 0 = .ok (.aload_n 0, 1) := by decide +kernel
theorem d_Cp_condition_1 : decode b_Cp_condition 1 = .ok (.iconst 0, 1) := by decide +kernel
theorem d_Cp_condition_2 : decode b_Cp_condition 2 = .ok (.invokevirtual 212, 3) := by decide +kernel
theorem d_Cp_condition_5 : decode b_Cp_condition 5 = .ok (.aload_n 0, 1) := by decide +kernel
theorem d_Cp_condition_6 : decode b_Cp_condition 6 = .ok (.invokevirtual 248, 3) := by decide +kernel
theorem d_Cp_condition_9 : decode b_Cp_condition 9 = .ok (.istore_n 1, 1) := by decide +kernel
theorem d_Cp_condition_10 : decode b_Cp_condition 10 = .ok (.iload_n 1, 1) := by decide +kernel
theorem d_Cp_condition_11 : decode b_Cp_condition 11 = .ok (.ifCond .ge 14, 3) := by decide +kernel
theorem d_Cp_condition_14 : decode b_Cp_condition 14 = .ok (.aload_n 0, 1) := by decide +kernel
theorem d_Cp_condition_15 : decode b_Cp_condition 15 = .ok (.aload_n 0, 1) := by decide +kernel
theorem d_Cp_condition_16 : decode b_Cp_condition 16 = .ok (.getfield 12, 3) := by decide +kernel
theorem d_Cp_condition_19 : decode b_Cp_condition 19 = .ok (.invokevirtual 70, 3) := by decide +kernel
theorem d_Cp_condition_22 : decode b_Cp_condition 22 = .ok (.invokevirtual 74, 3) := by decide +kernel
theorem d_Cp_condition_25 : decode b_Cp_condition 25 = .ok (.aload_n 0, 1) := by decide +kernel
theorem d_Cp_condition_26 : decode b_Cp_condition 26 = .ok (.getfield 12, 3) := by decide +kernel
theorem d_Cp_condition_29 : decode b_Cp_condition 29 = .ok (.invokevirtual 99, 3) := by decide +kernel
theorem d_Cp_condition_32 : decode b_Cp_condition 32 = .ok (.aload_n 0, 1) := by decide +kernel
theorem d_Cp_condition_33 : decode b_Cp_condition 33 = .ok (.iconst 0, 1) := by decide +kernel
theorem d_Cp_condition_34 : decode b_Cp_condition 34 = .ok (.invokevirtual 212, 3) := by decide +kernel
theorem d_Cp_condition_37 : decode b_Cp_condition 37 = .ok (.aload_n 0, 1) := by decide +kernel
theorem d_Cp_condition_38 : decode b_Cp_condition 38 = .ok (.getfield 28, 3) := by decide +kernel
theorem d_Cp_condition_41 : decode b_Cp_condition 41 = .ok (.iload_n 1, 1) := by decide +kernel
theorem d_Cp_condition_42 : decode b_Cp_condition 42 = .ok (.iconst 0, 1) := by decide +kernel
theorem d_Cp_condition_43 : decode b_Cp_condition 43 = .ok (.iconst 0, 1) := by decide +kernel
theorem d_Cp_condition_44 : decode b_Cp_condition 44 = .ok (.invokevirtual 120, 3) := by decide +kernel
theorem d_Cp_condition_47 : decode b_Cp_condition 47 = .ok (.pop, 1) := by decide +kernel
theorem d_Cp_condition_48 : decode b_Cp_condition 48 = .ok (.aload_n 0, 1) := by decide +kernel
theorem d_Cp_condition_49 : decode b_Cp_condition 49 = .ok (.getfield 28, 3) := by decide +kernel
theorem d_Cp_condition_52 : decode b_Cp_condition 52 = .ok (.bipush 17, 2) := by decide +kernel
theorem d_Cp_condition_54 : decode b_Cp_condition 54 = .ok (.iconst 0, 1) := by decide +kernel
theorem d_Cp_condition_55 : decode b_Cp_condition 55 = .ok (.iconst 0, 1) := by decide +kernel
theorem d_Cp_condition_56 : decode b_Cp_condition 56 = .ok (.invokevirtual 120, 3) := by decide +kernel
theorem d_Cp_condition_59 : decode b_Cp_condition 59 = .ok (.ireturn, 1) := by decide +kernel
theorem d_Cp_comparison_0 : decode b_Cp_comparison 0 = .ok (.getstatic 172, 3) := by decide +kernel
theorem d_Cp_comparison_3 : decode b_Cp_comparison 3 = .ok (.aload_n 0, 1) := by decide +kernel
theorem d_Cp_comparison_4 : decode b_Cp_comparison 4 = .ok (.getfield 12, 3) := by decide +kernel
theorem d_Cp_comparison_7 : decode b_Cp_comparison 7 = .ok (.invokevirtual 63, 3) := by decide +kernel
theorem d_Cp_comparison_10 : decode b_Cp_comparison 10 = .ok (.invokevirtual 177, 3) := by decide +kernel
theorem d_Cp_comparison_13 : decode b_Cp_comparison 13 = .ok (.iaload, 1) := by decide +kernel
theorem d_Cp_comparison_14 : decode b_Cp_comparison 14 = .ok (.tableswitch 35 6 8 #[26, 29, 32], 26) := by decide +kernel
theorem d_Cp_comparison_40 : decode b_Cp_comparison 40 = .ok (.bipush 13, 2) := by decide +kernel
theorem d_Cp_comparison_42 : decode b_Cp_comparison 42 = .ok (.ireturn, 1) := by decide +kernel
theorem d_Cp_comparison_43 : decode b_Cp_comparison 43 = .ok (.bipush 14, 2) := by decide +kernel
theorem d_Cp_comparison_45 : decode b_Cp_comparison 45 = .ok (.ireturn, 1) := by decide +kernel
theorem d_Cp_comparison_46 : decode b_Cp_comparison 46 = .ok (.bipush 15, 2) := by decide +kernel
theorem d_Cp_comparison_48 : decode b_Cp_comparison 48 = .ok (.ireturn, 1) := by decide +kernel
theorem d_Cp_comparison_49 : decode b_Cp_comparison 49 = .ok (.iconst (-1), 1) := by decide +kernel
theorem d_Cp_comparison_50 : decode b_Cp_comparison 50 = .ok (.ireturn, 1) := by decide +kernel
theorem d_Cp_expression_0 : decode b_Cp_expression 0 = .ok (.aload_n 0, 1) := by decide +kernel
theorem d_Cp_expression_1 : decode b_Cp_expression 1 = .ok (.getfield 12, 3) := by decide +kernel
theorem d_Cp_expression_4 : decode b_Cp_expression 4 = .ok (.getstatic 251, 3) := by decide +kernel
theorem d_Cp_expression_7 : decode b_Cp_expression 7 = .ok (.invokevirtual 84, 3) := by decide +kernel
theorem d_Cp_expression_10 : decode b_Cp_expression 10 = .ok (.istore_n 2, 1) := by decide +kernel
theorem d_Cp_expression_11 : decode b_Cp_expression 11 = .ok (.aload_n 0, 1) := by decide +kernel
theorem d_Cp_expression_12 : decode b_Cp_expression 12 = .ok (.iload_n 1, 1) := by decide +kernel
theorem d_Cp_expression_13 : decode b_Cp_expression 13 = .ok (.invokevirtual 254, 3) := by decide +kernel
theorem d_Cp_expression_16 : decode b_Cp_expression 16 = .ok (.iload_n 2, 1) := by decide +kernel
theorem d_Cp_expression_17 : decode b_Cp_expression 17 = .ok (.ifCond .eq 15, 3) := by decide +kernel
theorem d_Cp_expression_20 : decode b_Cp_expression 20 = .ok (.aload_n 0, 1) := by decide +kernel
theorem d_Cp_expression_21 : decode b_Cp_expression 21 = .ok (.getfield 28, 3) := by decide +kernel
theorem d_Cp_expression_24 : decode b_Cp_expression 24 = .ok (.bipush 7, 2) := by decide +kernel
theorem d_Cp_expression_26 : decode b_Cp_expression 26 = .ok (.iconst 0, 1) := by decide +kernel
theorem d_Cp_expression_27 : decode b_Cp_expression 27 = .ok (.iconst 0, 1) := by decide +kernel
theorem d_Cp_expression_28 : decode b_Cp_expression 28 = .ok (.invokevirtual 120, 3) := by decide +kernel
theorem d_Cp_expression_31 : decode b_Cp_expression 31 = .ok (.pop, 1) := by decide +kernel
theorem d_Cp_expression_32 : decode b_Cp_expression 32 = .ok (.iconst 0, 1) := by decide +kernel
theorem d_Cp_expression_33 : decode b_Cp_expression 33 = .ok (.istore_n 3, 1) := by decide +kernel
theorem d_Cp_expression_34 : decode b_Cp_expression 34 = .ok (.iload_n 3, 1) := by decide +kernel
theorem d_Cp_expression_35 : decode b_Cp_expression 35 = .ok (.sipush 150, 3) := by decide +kernel
theorem d_Cp_expression_38 : decode b_Cp_expression 38 = .ok (.if_icmp .ge 81, 3) := by decide +kernel
theorem d_Cp_expression_41 : decode b_Cp_expression 41 = .ok (.aload_n 0, 1) := by decide +kernel
theorem d_Cp_expression_42 : decode b_Cp_expression 42 = .ok (.getfield 12, 3) := by decide +kernel
theorem d_Cp_expression_45 : decode b_Cp_expression 45 = .ok (.invokevirtual 63, 3) := by decide +kernel
theorem d_Cp_expression_48 : decode b_Cp_expression 48 = .ok (.getstatic 257, 3) := by decide +kernel
theorem d_Cp_expression_51 : decode b_Cp_expression 51 = .ok (.if_acmp .eq 16, 3) := by decide +kernel
theorem d_Cp_expression_54 : decode b_Cp_expression 54 = .ok (.aload_n 0, 1) := by decide +kernel
theorem d_Cp_expression_55 : decode b_Cp_expression 55 = .ok (.getfield 12, 3) := by decide +kernel
theorem d_Cp_expression_58 : decode b_Cp_expression 58 = .ok (.invokevirtual 63, 3) := by decide +kernel
theorem d_Cp_expression_61 : decode b_Cp_expression 61 = .ok (.getstatic 251, 3) := by decide +kernel
theorem d_Cp_expression_64 : decode b_Cp_expression 64 = .ok (.if_acmp .ne 55, 3) := by decide +kernel
theorem d_Cp_expression_67 : decode b_Cp_expression 67 = .ok (.aload_n 0, 1) := by decide +kernel
theorem d_Cp_expression_68 : decode b_Cp_expression 68 = .ok (.getfield 12, 3) := by decide +kernel
theorem d_Cp_expression_71 : decode b_Cp_expression 71 = .ok (.invokevirtual 63, 3) := by decide +kernel
theorem d_Cp_expression_74 : decode b_Cp_expression 74 = .ok (.getstatic 257, 3) := by decide +kernel
theorem d_Cp_expression_77 : decode b_Cp_expression 77 = .ok (.if_acmp .ne 8, 3) := by decide +kernel
theorem d_Cp_expression_80 : decode b_Cp_expression 80 = .ok (.bipush 8, 2) := by decide +kernel
theorem d_Cp_expression_82 : decode b_Cp_expression 82 = .ok (.goto 5, 3) := by decide +kernel
theorem d_Cp_expression_85 : decode b_Cp_expression 85 = .ok (.bipush 9, 2) := by decide +kernel
theorem d_Cp_expression_87 : decode b_Cp_expression 87 = .ok (.istore 4, 2) := by decide +kernel
theorem d_Cp_expression_89 : decode b_Cp_expression 89 = .ok (.aload_n 0, 1) := by decide +kernel
theorem d_Cp_expression_90 : decode b_Cp_expression 90 = .ok (.getfield 12, 3) := by decide +kernel
theorem d_Cp_expression_93 : decode b_Cp_expression 93 = .ok (.invokevirtual 99, 3) := by decide +kernel
theorem d_Cp_expression_96 : decode b_Cp_expression 96 = .ok (.aload_n 0, 1) := by decide +kernel
theorem d_Cp_expression_97 : decode b_Cp_expression 97 = .ok (.iload_n 1, 1) := by decide +kernel
theorem d_Cp_expression_98 : decode b_Cp_expression 98 = .ok (.invokevirtual 254, 3) := by decide +kernel
theorem d_Cp_expression_101 : decode b_Cp_expression 101 = .ok (.aload_n 0, 1) := by decide +kernel
theorem d_Cp_expression_102 : decode b_Cp_expression 102 = .ok (.getfield 28, 3) := by decide +kernel
theorem d_Cp_expression_105 : decode b_Cp_expression 105 = .ok (.iload 4, 2) := by decide +kernel
theorem d_Cp_expression_107 : decode b_Cp_expression 107 = .ok (.iconst 0, 1) := by decide +kernel
theorem d_Cp_expression_108 : decode b_Cp_expression 108 = .ok (.iconst 0, 1) := by decide +kernel
theorem d_Cp_expression_109 : decode b_Cp_expression 109 = .ok (.invokevirtual 120, 3) := by decide +kernel
theorem d_Cp_expression_112 : decode b_Cp_expression 112 = .ok (.pop, 1) := by decide +kernel
theorem d_Cp_expression_113 : decode b_Cp_expression 113 = .ok (.iinc 3 1, 3) := by decide +kernel
theorem d_Cp_expression_116 : decode b_Cp_expression 116 = .ok (.goto (-82), 3) := by decide +kernel
theorem d_Cp_expression_119 : decode b_Cp_expression 119 = .ok (.return_, 1) := by decide +kernel
theorem d_Cp_term_0 : decode b_Cp_term 0 = .ok (.aload_n 0, 1) := by decide +kernel
theorem d_Cp_term_1 : decode b_Cp_term 1 = .ok (.iload_n 1, 1) := by decide +kernel
theorem d_Cp_term_2 : decode b_Cp_term 2 = .ok (.invokevirtual 260, 3) := by decide +kernel
theorem d_Cp_term_5 : decode b_Cp_term 5 = .ok (.aload_n 0, 1) := by decide +kernel
theorem d_Cp_term_6 : decode b_Cp_term 6 = .ok (.invokevirtual 263, 3) := by decide +kernel
theorem d_Cp_term_9 : decode b_Cp_term 9 = .ok (.istore_n 2, 1) := by decide +kernel
theorem d_Cp_term_10 : decode b_Cp_term 10 = .ok (.iconst 0, 1) := by decide +kernel
theorem d_Cp_term_11 : decode b_Cp_term 11 = .ok (.istore_n 3, 1) := by decide +kernel
theorem d_Cp_term_12 : decode b_Cp_term 12 = .ok (.iload_n 3, 1) := by decide +kernel
theorem d_Cp_term_13 : decode b_Cp_term 13 = .ok (.sipush 150, 3) := by decide +kernel
theorem d_Cp_term_16 : decode b_Cp_term 16 = .ok (.if_icmp .ge 41, 3) := by decide +kernel
theorem d_Cp_term_19 : decode b_Cp_term 19 = .ok (.iload_n 2, 1) := by decide +kernel
theorem d_Cp_term_20 : decode b_Cp_term 20 = .ok (.ifCond .lt 37, 3) := by decide +kernel
theorem d_Cp_term_23 : decode b_Cp_term 23 = .ok (.aload_n 0, 1) := by decide +kernel
theorem d_Cp_term_24 : decode b_Cp_term 24 = .ok (.getfield 12, 3) := by decide +kernel
theorem d_Cp_term_27 : decode b_Cp_term 27 = .ok (.invokevirtual 99, 3) := by decide +kernel
theorem d_Cp_term_30 : decode b_Cp_term 30 = .ok (.aload_n 0, 1) := by decide +kernel
theorem d_Cp_term_31 : decode b_Cp_term 31 = .ok (.iload_n 1, 1) := by decide +kernel
theorem d_Cp_term_32 : decode b_Cp_term 32 = .ok (.invokevirtual 260, 3) := by decide +kernel
theorem d_Cp_term_35 : decode b_Cp_term 35 = .ok (.aload_n 0, 1) := by decide +kernel
theorem d_Cp_term_36 : decode b_Cp_term 36 = .ok (.getfield 28, 3) := by decide +kernel
theorem d_Cp_term_39 : decode b_Cp_term 39 = .ok (.iload_n 2, 1) := by decide +kernel
theorem d_Cp_term_40 : decode b_Cp_term 40 = .ok (.iconst 0, 1) := by decide +kernel
theorem d_Cp_term_41 : decode b_Cp_term 41 = .ok (.iconst 0, 1) := by decide +kernel
theorem d_Cp_term_42 : decode b_Cp_term 42 = .ok (.invokevirtual 120, 3) := by decide +kernel
theorem d_Cp_term_45 : decode b_Cp_term 45 = .ok (.pop, 1) := by decide +kernel
theorem d_Cp_term_46 : decode b_Cp_term 46 = .ok (.aload_n 0, 1) := by decide +kernel
theorem d_Cp_term_47 : decode b_Cp_term 47 = .ok (.invokevirtual 263, 3) := by decide +kernel
theorem d_Cp_term_50 : decode b_Cp_term 50 = .ok (.istore_n 2, 1) := by decide +kernel
theorem d_Cp_term_51 : decode b_Cp_term 51 = .ok (.iinc 3 1, 3) := by decide +kernel
theorem d_Cp_term_54 : decode b_Cp_term 54 = .ok (.goto (-42), 3) := by decide +kernel
theorem d_Cp_term_57 : decode b_Cp_term 57 = .ok (.return_, 1) := by decide +kernel
theorem d_Cp_multiplication_0 : decode b_Cp_multiplication 0 = .ok (.getstatic 172, 3) := by decide +kernel
theorem d_Cp_multiplication_3 : decode b_Cp_multiplication 3 = .ok (.aload_n 0, 1) := by decide +kernel
theorem d_Cp_multiplication_4 : decode b_Cp_multiplication 4 = .ok (.getfield 12, 3) := by decide +kernel
theorem d_Cp_multiplication_7 : decode b_Cp_multiplication 7 = .ok (.invokevirtual 63, 3) := by decide +kernel
theorem d_Cp_multiplication_10 : decode b_Cp_multiplication 10 = .ok (.invokevirtual 177, 3) := by decide +kernel
theorem d_Cp_multiplication_13 : decode b_Cp_multiplication 13 = .ok (.iaload, 1) := by decide +kernel
theorem d_Cp_multiplication_14 : decode b_Cp_multiplication 14 = .ok (.tableswitch 35 9 11 #[26, 29, 32], 26) := by decide +kernel
theorem d_Cp_multiplication_40 : decode b_Cp_multiplication 40 = .ok (.bipush 10, 2) := by decide +kernel
theorem d_Cp_multiplication_42 : decode b_Cp_multiplication 42 = .ok (.ireturn, 1) := by decide +kernel
theorem d_Cp_multiplication_43 : decode b_Cp_multiplication 43 = .ok (.bipush 11, 2) := by decide +kernel
theorem d_Cp_multiplication_45 : decode b_Cp_multiplication 45 = .ok (.ireturn, 1) := by decide +kernel
theorem d_Cp_multiplication_46 : decode b_Cp_multiplication 46 = .ok (.bipush 12, 2) := by decide +kernel
theorem d_Cp_multiplication_48 : decode b_Cp_multiplication 48 = .ok (.ireturn, 1) := by decide +kernel
theorem d_Cp_multiplication_49 : decode b_Cp_multiplication 49 = .ok (.iconst (-1), 1) := by decide +kernel
theorem d_Cp_multiplication_50 : decode b_Cp_multiplication 50 = .ok (.ireturn, 1) := by decide +kernel
theorem d_Cp_factor_0 : decode b_Cp_factor 0 = .ok (.getstatic 172, 3) := by decide +kernel
theorem d_Cp_factor_3 : decode b_Cp_factor 3 = .ok (.aload_n 0, 1) := by decide +kernel
theorem d_Cp_factor_4 : decode b_Cp_factor 4 = .ok (.getfield 12, 3) := by decide +kernel
theorem d_Cp_factor_7 : decode b_Cp_factor 7 = .ok (.invokevirtual 63, 3) := by decide +kernel
theorem d_Cp_factor_10 : decode b_Cp_factor 10 = .ok (.invokevirtual 177, 3) := by decide +kernel
theorem d_Cp_factor_13 : decode b_Cp_factor 13 = .ok (.iaload, 1) := by decide +kernel
theorem d_Cp_factor_14 : decode b_Cp_factor 14 = .ok (.lookupswitch 110 #[(1, 62), (12, 34), (13, 69)], 34) := by decide +kernel
theorem d_Cp_factor_48 : decode b_Cp_factor 48 = .ok (.aload_n 0, 1) := by decide +kernel
theorem d_Cp_factor_49 : decode b_Cp_factor 49 = .ok (.getfield 28, 3) := by decide +kernel
theorem d_Cp_factor_52 : decode b_Cp_factor 52 = .ok (.iconst 1, 1) := by decide +kernel
theorem d_Cp_factor_53 : decode b_Cp_factor 53 = .ok (.aload_n 0, 1) := by decide +kernel
theorem d_Cp_factor_54 : decode b_Cp_factor 54 = .ok (.getfield 12, 3) := by decide +kernel
theorem d_Cp_factor_57 : decode b_Cp_factor 57 = .ok (.invokevirtual 91, 3) := by decide +kernel
theorem d_Cp_factor_60 : decode b_Cp_factor 60 = .ok (.l2i, 1) := by decide +kernel
theorem d_Cp_factor_61 : decode b_Cp_factor 61 = .ok (.iconst 0, 1) := by decide +kernel
theorem d_Cp_factor_62 : decode b_Cp_factor 62 = .ok (.invokevirtual 120, 3) := by decide +kernel
theorem d_Cp_factor_65 : decode b_Cp_factor 65 = .ok (.pop, 1) := by decide +kernel
theorem d_Cp_factor_66 : decode b_Cp_factor 66 = .ok (.aload_n 0, 1) := by decide +kernel
theorem d_Cp_factor_67 : decode b_Cp_factor 67 = .ok (.getfield 12, 3) := by decide +kernel
theorem d_Cp_factor_70 : decode b_Cp_factor 70 = .ok (.invokevirtual 99, 3) := by decide +kernel
theorem d_Cp_factor_73 : decode b_Cp_factor 73 = .ok (.goto 62, 3) := by decide +kernel
theorem d_Cp_factor_76 : decode b_Cp_factor 76 = .ok (.aload_n 0, 1) := by decide +kernel
theorem d_Cp_factor_77 : decode b_Cp_factor 77 = .ok (.invokevirtual 266, 3) := by decide +kernel
theorem d_Cp_factor_80 : decode b_Cp_factor 80 = .ok (.goto 55, 3) := by decide +kernel
theorem d_Cp_factor_83 : decode b_Cp_factor 83 = .ok (.iload_n 1, 1) := by decide +kernel
theorem d_Cp_factor_84 : decode b_Cp_factor 84 = .ok (.bipush 8, 2) := by decide +kernel
theorem d_Cp_factor_86 : decode b_Cp_factor 86 = .ok (.if_icmp .ne 14, 3) := by decide +kernel
theorem d_Cp_factor_89 : decode b_Cp_factor 89 = .ok (.aload_n 0, 1) := by decide +kernel
theorem d_Cp_factor_90 : decode b_Cp_factor 90 = .ok (.aload_n 0, 1) := by decide +kernel
theorem d_Cp_factor_91 : decode b_Cp_factor 91 = .ok (.getfield 12, 3) := by decide +kernel
theorem d_Cp_factor_94 : decode b_Cp_factor 94 = .ok (.invokevirtual 70, 3) := by decide +kernel
theorem d_Cp_factor_97 : decode b_Cp_factor 97 = .ok (.invokevirtual 74, 3) := by decide +kernel
theorem d_Cp_factor_100 : decode b_Cp_factor 100 = .ok (.aload_n 0, 1) := by decide +kernel
theorem d_Cp_factor_101 : decode b_Cp_factor 101 = .ok (.getfield 12, 3) := by decide +kernel
theorem d_Cp_factor_104 : decode b_Cp_factor 104 = .ok (.invokevirtual 99, 3) := by decide +kernel
theorem d_Cp_factor_107 : decode b_Cp_factor 107 = .ok (.aload_n 0, 1) := by decide +kernel
theorem d_Cp_factor_108 : decode b_Cp_factor 108 = .ok (.iload_n 1, 1) := by decide +kernel
theorem d_Cp_factor_109 : decode b_Cp_factor 109 = .ok (.iconst 1, 1) := by decide +kernel
theorem d_Cp_factor_110 : decode b_Cp_factor 110 = .ok (.iadd, 1) := by decide +kernel
theorem d_Cp_factor_111 : decode b_Cp_factor 111 = .ok (.invokevirtual 212, 3) := by decide +kernel
theorem d_Cp_factor_114 : decode b_Cp_factor 114 = .ok (.aload_n 0, 1) := by decide +kernel
theorem d_Cp_factor_115 : decode b_Cp_factor 115 = .ok (.getstatic 160, 3) := by decide +kernel
theorem d_Cp_factor_118 : decode b_Cp_factor 118 = .ok (.invokevirtual 59, 3) := by decide +kernel
theorem d_Cp_factor_121 : decode b_Cp_factor 121 = .ok (.goto 14, 3) := by decide +kernel
theorem d_Cp_factor_124 : decode b_Cp_factor 124 = .ok (.aload_n 0, 1) := by decide +kernel
theorem d_Cp_factor_125 : decode b_Cp_factor 125 = .ok (.aload_n 0, 1) := by decide +kernel
theorem d_Cp_factor_126 : decode b_Cp_factor 126 = .ok (.getfield 12, 3) := by decide +kernel
theorem d_Cp_factor_129 : decode b_Cp_factor 129 = .ok (.invokevirtual 70, 3) := by decide +kernel
theorem d_Cp_factor_132 : decode b_Cp_factor 132 = .ok (.invokevirtual 74, 3) := by decide +kernel
theorem d_Cp_factor_135 : decode b_Cp_factor 135 = .ok (.return_, 1) := by decide +kernel
theorem d_Cp_variable_0 : decode b_Cp_variable 0 = .ok (.aload_n 0, 1) := by decide +kernel
theorem d_Cp_variable_1 : decode b_Cp_variable 1 = .ok (.getfield 21, 3) := by decide +kernel
theorem d_Cp_variable_4 : decode b_Cp_variable 4 = .ok (.aload_n 0, 1) := by decide +kernel
theorem d_Cp_variable_5 : decode b_Cp_variable 5 = .ok (.getfield 12, 3) := by decide +kernel
theorem d_Cp_variable_8 : decode b_Cp_variable 8 = .ok (.invokevirtual 91, 3) := by decide +kernel
theorem d_Cp_variable_11 : decode b_Cp_variable 11 = .ok (.invokevirtual 204, 3) := by decide +kernel
theorem d_Cp_variable_14 : decode b_Cp_variable 14 = .ok (.istore_n 1, 1) := by decide +kernel
theorem d_Cp_variable_15 : decode b_Cp_variable 15 = .ok (.iload_n 1, 1) := by decide +kernel
theorem d_Cp_variable_16 : decode b_Cp_variable 16 = .ok (.ifCond .lt 14, 3) := by decide +kernel
theorem d_Cp_variable_19 : decode b_Cp_variable 19 = .ok (.aload_n 0, 1) := by decide +kernel
theorem d_Cp_variable_20 : decode b_Cp_variable 20 = .ok (.getfield 21, 3) := by decide +kernel
theorem d_Cp_variable_23 : decode b_Cp_variable 23 = .ok (.iload_n 1, 1) := by decide +kernel
theorem d_Cp_variable_24 : decode b_Cp_variable 24 = .ok (.invokevirtual 208, 3) := by decide +kernel
theorem d_Cp_variable_27 : decode b_Cp_variable 27 = .ok (.ifCond .eq 14, 3) := by decide +kernel
theorem d_Cp_variable_30 : decode b_Cp_variable 30 = .ok (.aload_n 0, 1) := by decide +kernel
theorem d_Cp_variable_31 : decode b_Cp_variable 31 = .ok (.aload_n 0, 1) := by decide +kernel
theorem d_Cp_variable_32 : decode b_Cp_variable 32 = .ok (.getfield 12, 3) := by decide +kernel
theorem d_Cp_variable_35 : decode b_Cp_variable 35 = .ok (.invokevirtual 70, 3) := by decide +kernel
theorem d_Cp_variable_38 : decode b_Cp_variable 38 = .ok (.invokevirtual 74, 3) := by decide +kernel
theorem d_Cp_variable_41 : decode b_Cp_variable 41 = .ok (.aload_n 0, 1) := by decide +kernel
theorem d_Cp_variable_42 : decode b_Cp_variable 42 = .ok (.getfield 21, 3) := by decide +kernel
theorem d_Cp_variable_45 : decode b_Cp_variable 45 = .ok (.iload_n 1, 1) := by decide +kernel
theorem d_Cp_variable_46 : decode b_Cp_variable 46 = .ok (.invokevirtual 215, 3) := by decide +kernel
theorem d_Cp_variable_49 : decode b_Cp_variable 49 = .ok (.ifCond .eq 7, 3) := by decide +kernel
theorem d_Cp_variable_52 : decode b_Cp_variable 52 = .ok (.iconst 3, 1) := by decide +kernel
theorem d_Cp_variable_53 : decode b_Cp_variable 53 = .ok (.goto 4, 3) := by decide +kernel
theorem d_Cp_variable_56 : decode b_Cp_variable 56 = .ok (.iconst 2, 1) := by decide +kernel
theorem d_Cp_variable_57 : decode b_Cp_variable 57 = .ok (.istore_n 2, 1) := by decide +kernel
theorem d_Cp_variable_58 : decode b_Cp_variable 58 = .ok (.aload_n 0, 1) := by decide +kernel
theorem d_Cp_variable_59 : decode b_Cp_variable 59 = .ok (.getfield 28, 3) := by decide +kernel
theorem d_Cp_variable_62 : decode b_Cp_variable 62 = .ok (.iload_n 2, 1) := by decide +kernel
theorem d_Cp_variable_63 : decode b_Cp_variable 63 = .ok (.aload_n 0, 1) := by decide +kernel
theorem d_Cp_variable_64 : decode b_Cp_variable 64 = .ok (.getfield 21, 3) := by decide +kernel
theorem d_Cp_variable_67 : decode b_Cp_variable 67 = .ok (.iload_n 1, 1) := by decide +kernel
theorem d_Cp_variable_68 : decode b_Cp_variable 68 = .ok (.invokevirtual 218, 3) := by decide +kernel
theorem d_Cp_variable_71 : decode b_Cp_variable 71 = .ok (.aload_n 0, 1) := by decide +kernel
theorem d_Cp_variable_72 : decode b_Cp_variable 72 = .ok (.getfield 21, 3) := by decide +kernel
theorem d_Cp_variable_75 : decode b_Cp_variable 75 = .ok (.iload_n 1, 1) := by decide +kernel
theorem d_Cp_variable_76 : decode b_Cp_variable 76 = .ok (.invokevirtual 221, 3) := by decide +kernel
theorem d_Cp_variable_79 : decode b_Cp_variable 79 = .ok (.invokevirtual 120, 3) := by decide +kernel
theorem d_Cp_variable_82 : decode b_Cp_variable 82 = .ok (.pop, 1) := by decide +kernel
theorem d_Cp_variable_83 : decode b_Cp_variable 83 = .ok (.aload_n 0, 1) := by decide +kernel
theorem d_Cp_variable_84 : decode b_Cp_variable 84 = .ok (.getfield 12, 3) := by decide +kernel
theorem d_Cp_variable_87 : decode b_Cp_variable 87 = .ok (.invokevirtual 99, 3) := by decide +kernel
theorem d_Cp_variable_90 : decode b_Cp_variable 90 = .ok (.return_, 1) := by decide +kernel
end
section
abbrev b_Lw_append : ByteArray := method_3_code
theorem d_Lw_append_0 : decode b_Lw_append 0 = .ok (.aload 4, 2) := by decide +kernel
theorem d_Lw_append_2 : decode b_Lw_append 2 = .ok (.iconst 0, 1) := by decide +kernel
theorem d_Lw_append_3 : decode b_Lw_append 3 = .ok (.aload_n 0, 1) := by decide +kernel
theorem d_Lw_append_4 : decode b_Lw_append 4 = .ok (.lload_n 1, 1) := by decide +kernel
theorem d_Lw_append_5 : decode b_Lw_append 5 = .ok (.iload_n 3, 1) := by decide +kernel
theorem d_Lw_append_6 : decode b_Lw_append 6 = .ok (.invokevirtual 7, 3) := by decide +kernel
theorem d_Lw_append_9 : decode b_Lw_append 9 = .ok (.i2l, 1) := by decide +kernel
theorem d_Lw_append_10 : decode b_Lw_append 10 = .ok (.lastore, 1) := by decide +kernel
theorem d_Lw_append_11 : decode b_Lw_append 11 = .ok (.goto 11, 3) := by decide +kernel
theorem d_Lw_append_14 : decode b_Lw_append 14 = .ok (.astore 5, 2) := by decide +kernel
theorem d_Lw_append_16 : decode b_Lw_append 16 = .ok (.iconst 1, 1) := by decide +kernel
theorem d_Lw_append_17 : decode b_Lw_append 17 = .ok (.ireturn, 1) := by decide +kernel
theorem d_Lw_append_18 : decode b_Lw_append 18 = .ok (.astore 5, 2) := by decide +kernel
theorem d_Lw_append_20 : decode b_Lw_append 20 = .ok (.iconst 2, 1) := by decide +kernel
theorem d_Lw_append_21 : decode b_Lw_append 21 = .ok (.ireturn, 1) := by decide +kernel
theorem d_Lw_append_22 : decode b_Lw_append 22 = .ok (.iconst 0, 1) := by decide +kernel
theorem d_Lw_append_23 : decode b_Lw_append 23 = .ok (.ireturn, 1) := by decide +kernel
abbrev b_Lw_cut : ByteArray := method_4_code
theorem d_Lw_cut_0 : decode b_Lw_cut 0 = .ok (.aload_n 2, 1) := by decide +kernel
theorem d_Lw_cut_1 : decode b_Lw_cut 1 = .ok (.iconst 0, 1) := by decide +kernel
theorem d_Lw_cut_2 : decode b_Lw_cut 2 = .ok (.aload_n 0, 1) := by decide +kernel
theorem d_Lw_cut_3 : decode b_Lw_cut 3 = .ok (.iload_n 1, 1) := by decide +kernel
theorem d_Lw_cut_4 : decode b_Lw_cut 4 = .ok (.invokevirtual 17, 3) := by decide +kernel
theorem d_Lw_cut_7 : decode b_Lw_cut 7 = .ok (.i2l, 1) := by decide +kernel
theorem d_Lw_cut_8 : decode b_Lw_cut 8 = .ok (.lastore, 1) := by decide +kernel
theorem d_Lw_cut_9 : decode b_Lw_cut 9 = .ok (.goto 6, 3) := by decide +kernel
theorem d_Lw_cut_12 : decode b_Lw_cut 12 = .ok (.astore_n 3, 1) := by decide +kernel
theorem d_Lw_cut_13 : decode b_Lw_cut 13 = .ok (.iconst 1, 1) := by decide +kernel
theorem d_Lw_cut_14 : decode b_Lw_cut 14 = .ok (.ireturn, 1) := by decide +kernel
theorem d_Lw_cut_15 : decode b_Lw_cut 15 = .ok (.iconst 0, 1) := by decide +kernel
theorem d_Lw_cut_16 : decode b_Lw_cut 16 = .ok (.ireturn, 1) := by decide +kernel
abbrev b_Lw_compile : ByteArray := method_5_code
theorem d_Lw_compile_0 : decode b_Lw_compile 0 = .ok (.aload_n 1, 1) := by decide +kernel
theorem d_Lw_compile_1 : decode b_Lw_compile 1 = .ok (.iconst 0, 1) := by decide +kernel
theorem d_Lw_compile_2 : decode b_Lw_compile 2 = .ok (.aload_n 0, 1) := by decide +kernel
theorem d_Lw_compile_3 : decode b_Lw_compile 3 = .ok (.invokevirtual 21, 3) := by decide +kernel
theorem d_Lw_compile_6 : decode b_Lw_compile 6 = .ok (.i2l, 1) := by decide +kernel
theorem d_Lw_compile_7 : decode b_Lw_compile 7 = .ok (.lastore, 1) := by decide +kernel
theorem d_Lw_compile_8 : decode b_Lw_compile 8 = .ok (.goto 6, 3) := by decide +kernel
theorem d_Lw_compile_11 : decode b_Lw_compile 11 = .ok (.astore_n 2, 1) := by decide +kernel
theorem d_Lw_compile_12 : decode b_Lw_compile 12 = .ok (.iconst 1, 1) := by decide +kernel
theorem d_Lw_compile_13 : decode b_Lw_compile 13 = .ok (.ireturn, 1) := by decide +kernel
theorem d_Lw_compile_14 : decode b_Lw_compile 14 = .ok (.iconst 0, 1) := by decide +kernel
theorem d_Lw_compile_15 : decode b_Lw_compile 15 = .ok (.ireturn, 1) := by decide +kernel
abbrev b_Lw_run : ByteArray := method_6_code
theorem d_Lw_run_0 : decode b_Lw_run 0 = .ok (.aload_n 1, 1) := by decide +kernel
theorem d_Lw_run_1 : decode b_Lw_run 1 = .ok (.iconst 0, 1) := by decide +kernel
theorem d_Lw_run_2 : decode b_Lw_run 2 = .ok (.aload_n 0, 1) := by decide +kernel
theorem d_Lw_run_3 : decode b_Lw_run 3 = .ok (.invokevirtual 25, 3) := by decide +kernel
theorem d_Lw_run_6 : decode b_Lw_run 6 = .ok (.i2l, 1) := by decide +kernel
theorem d_Lw_run_7 : decode b_Lw_run 7 = .ok (.lastore, 1) := by decide +kernel
theorem d_Lw_run_8 : decode b_Lw_run 8 = .ok (.goto 15, 3) := by decide +kernel
theorem d_Lw_run_11 : decode b_Lw_run 11 = .ok (.astore_n 2, 1) := by decide +kernel
theorem d_Lw_run_12 : decode b_Lw_run 12 = .ok (.iconst 1, 1) := by decide +kernel
theorem d_Lw_run_13 : decode b_Lw_run 13 = .ok (.ireturn, 1) := by decide +kernel
theorem d_Lw_run_14 : decode b_Lw_run 14 = .ok (.astore_n 2, 1) := by decide +kernel
theorem d_Lw_run_15 : decode b_Lw_run 15 = .ok (.iconst 2, 1) := by decide +kernel
theorem d_Lw_run_16 : decode b_Lw_run 16 = .ok (.ireturn, 1) := by decide +kernel
theorem d_Lw_run_17 : decode b_Lw_run 17 = .ok (.astore_n 2, 1) := by decide +kernel
theorem d_Lw_run_18 : decode b_Lw_run 18 = .ok (.iconst 3, 1) := by decide +kernel
theorem d_Lw_run_19 : decode b_Lw_run 19 = .ok (.ireturn, 1) := by decide +kernel
theorem d_Lw_run_20 : decode b_Lw_run 20 = .ok (.astore_n 2, 1) := by decide +kernel
theorem d_Lw_run_21 : decode b_Lw_run 21 = .ok (.iconst 4, 1) := by decide +kernel
theorem d_Lw_run_22 : decode b_Lw_run 22 = .ok (.ireturn, 1) := by decide +kernel
theorem d_Lw_run_23 : decode b_Lw_run 23 = .ok (.iconst 0, 1) := by decide +kernel
theorem d_Lw_run_24 : decode b_Lw_run 24 = .ok (.ireturn, 1) := by decide +kernel
abbrev b_Lw_output : ByteArray := method_7_code
theorem d_Lw_output_0 : decode b_Lw_output 0 = .ok (.aload_n 2, 1) := by decide +kernel
theorem d_Lw_output_1 : decode b_Lw_output 1 = .ok (.iconst 0, 1) := by decide +kernel
theorem d_Lw_output_2 : decode b_Lw_output 2 = .ok (.aload_n 0, 1) := by decide +kernel
theorem d_Lw_output_3 : decode b_Lw_output 3 = .ok (.iload_n 1, 1) := by decide +kernel
theorem d_Lw_output_4 : decode b_Lw_output 4 = .ok (.invokevirtual 34, 3) := by decide +kernel
theorem d_Lw_output_7 : decode b_Lw_output 7 = .ok (.i2l, 1) := by decide +kernel
theorem d_Lw_output_8 : decode b_Lw_output 8 = .ok (.lastore, 1) := by decide +kernel
theorem d_Lw_output_9 : decode b_Lw_output 9 = .ok (.goto 6, 3) := by decide +kernel
theorem d_Lw_output_12 : decode b_Lw_output 12 = .ok (.astore_n 3, 1) := by decide +kernel
theorem d_Lw_output_13 : decode b_Lw_output 13 = .ok (.iconst 1, 1) := by decide +kernel
theorem d_Lw_output_14 : decode b_Lw_output 14 = .ok (.ireturn, 1) := by decide +kernel
theorem d_Lw_output_15 : decode b_Lw_output 15 = .ok (.iconst 0, 1) := by decide +kernel
theorem d_Lw_output_16 : decode b_Lw_output 16 = .ok (.ireturn, 1) := by decide +kernel
abbrev b_Lw_count : ByteArray := method_8_code
theorem d_Lw_count_0 : decode b_Lw_count 0 = .ok (.aload_n 2, 1) := by decide +kernel
theorem d_Lw_count_1 : decode b_Lw_count 1 = .ok (.iconst 0, 1) := by decide +kernel
theorem d_Lw_count_2 : decode b_Lw_count 2 = .ok (.aload_n 0, 1) := by decide +kernel
theorem d_Lw_count_3 : decode b_Lw_count 3 = .ok (.iload_n 1, 1) := by decide +kernel
theorem d_Lw_count_4 : decode b_Lw_count 4 = .ok (.invokevirtual 37, 3) := by decide +kernel
theorem d_Lw_count_7 : decode b_Lw_count 7 = .ok (.i2l, 1) := by decide +kernel
theorem d_Lw_count_8 : decode b_Lw_count 8 = .ok (.lastore, 1) := by decide +kernel
theorem d_Lw_count_9 : decode b_Lw_count 9 = .ok (.goto 6, 3) := by decide +kernel
theorem d_Lw_count_12 : decode b_Lw_count 12 = .ok (.astore_n 3, 1) := by decide +kernel
theorem d_Lw_count_13 : decode b_Lw_count 13 = .ok (.iconst 1, 1) := by decide +kernel
theorem d_Lw_count_14 : decode b_Lw_count 14 = .ok (.ireturn, 1) := by decide +kernel
theorem d_Lw_count_15 : decode b_Lw_count 15 = .ok (.iconst 0, 1) := by decide +kernel
theorem d_Lw_count_16 : decode b_Lw_count 16 = .ok (.ireturn, 1) := by decide +kernel
abbrev b_Lw_law : ByteArray := code
theorem d_Lw_law_0 : decode b_Lw_law 0 = .ok (.new 8, 3) := by decide +kernel
theorem d_Lw_law_3 : decode b_Lw_law 3 = .ok (.dup, 1) := by decide +kernel
theorem d_Lw_law_4 : decode b_Lw_law 4 = .ok (.invokespecial 40, 3) := by decide +kernel
theorem d_Lw_law_7 : decode b_Lw_law 7 = .ok (.astore_n 1, 1) := by decide +kernel
theorem d_Lw_law_8 : decode b_Lw_law 8 = .ok (.new 41, 3) := by decide +kernel
theorem d_Lw_law_11 : decode b_Lw_law 11 = .ok (.dup, 1) := by decide +kernel
theorem d_Lw_law_12 : decode b_Lw_law 12 = .ok (.invokespecial 43, 3) := by decide +kernel
theorem d_Lw_law_15 : decode b_Lw_law 15 = .ok (.astore_n 2, 1) := by decide +kernel
theorem d_Lw_law_16 : decode b_Lw_law 16 = .ok (.iconst 1, 1) := by decide +kernel
theorem d_Lw_law_17 : decode b_Lw_law 17 = .ok (.newarray .long, 2) := by decide +kernel
theorem d_Lw_law_19 : decode b_Lw_law 19 = .ok (.astore_n 3, 1) := by decide +kernel
theorem d_Lw_law_20 : decode b_Lw_law 20 = .ok (.iconst 0, 1) := by decide +kernel
theorem d_Lw_law_21 : decode b_Lw_law 21 = .ok (.istore 4, 2) := by decide +kernel
theorem d_Lw_law_23 : decode b_Lw_law 23 = .ok (.iload 4, 2) := by decide +kernel
theorem d_Lw_law_25 : decode b_Lw_law 25 = .ok (.aload_n 0, 1) := by decide +kernel
theorem d_Lw_law_26 : decode b_Lw_law 26 = .ok (.arraylength, 1) := by decide +kernel
theorem d_Lw_law_27 : decode b_Lw_law 27 = .ok (.iconst 4, 1) := by decide +kernel
theorem d_Lw_law_28 : decode b_Lw_law 28 = .ok (.isub, 1) := by decide +kernel
theorem d_Lw_law_29 : decode b_Lw_law 29 = .ok (.if_icmp .gt 426, 3) := by decide +kernel
theorem d_Lw_law_32 : decode b_Lw_law 32 = .ok (.aload_n 0, 1) := by decide +kernel
theorem d_Lw_law_33 : decode b_Lw_law 33 = .ok (.iload 4, 2) := by decide +kernel
theorem d_Lw_law_35 : decode b_Lw_law 35 = .ok (.iaload, 1) := by decide +kernel
theorem d_Lw_law_36 : decode b_Lw_law 36 = .ok (.bipush 7, 2) := by decide +kernel
theorem d_Lw_law_38 : decode b_Lw_law 38 = .ok (.iand, 1) := by decide +kernel
theorem d_Lw_law_39 : decode b_Lw_law 39 = .ok (.tableswitch 410 0 6 #[41, 141, 197, 241, 254, 298, 354], 41) := by decide +kernel
theorem d_Lw_law_80 : decode b_Lw_law 80 = .ok (.aload_n 1, 1) := by decide +kernel
theorem d_Lw_law_81 : decode b_Lw_law 81 = .ok (.aload_n 0, 1) := by decide +kernel
theorem d_Lw_law_82 : decode b_Lw_law 82 = .ok (.iload 4, 2) := by decide +kernel
theorem d_Lw_law_84 : decode b_Lw_law 84 = .ok (.iconst 1, 1) := by decide +kernel
theorem d_Lw_law_85 : decode b_Lw_law 85 = .ok (.iadd, 1) := by decide +kernel
theorem d_Lw_law_86 : decode b_Lw_law 86 = .ok (.iaload, 1) := by decide +kernel
theorem d_Lw_law_87 : decode b_Lw_law 87 = .ok (.i2l, 1) := by decide +kernel
theorem d_Lw_law_88 : decode b_Lw_law 88 = .ok (.bipush 32, 2) := by decide +kernel
theorem d_Lw_law_90 : decode b_Lw_law 90 = .ok (.lshl, 1) := by decide +kernel
theorem d_Lw_law_91 : decode b_Lw_law 91 = .ok (.aload_n 0, 1) := by decide +kernel
theorem d_Lw_law_92 : decode b_Lw_law 92 = .ok (.iload 4, 2) := by decide +kernel
theorem d_Lw_law_94 : decode b_Lw_law 94 = .ok (.iconst 2, 1) := by decide +kernel
theorem d_Lw_law_95 : decode b_Lw_law 95 = .ok (.iadd, 1) := by decide +kernel
theorem d_Lw_law_96 : decode b_Lw_law 96 = .ok (.iaload, 1) := by decide +kernel
theorem d_Lw_law_97 : decode b_Lw_law 97 = .ok (.i2l, 1) := by decide +kernel
theorem d_Lw_law_98 : decode b_Lw_law 98 = .ok (.ldc2_w 44, 3) := by decide +kernel
theorem d_Lw_law_101 : decode b_Lw_law 101 = .ok (.land, 1) := by decide +kernel
theorem d_Lw_law_102 : decode b_Lw_law 102 = .ok (.lor, 1) := by decide +kernel
theorem d_Lw_law_103 : decode b_Lw_law 103 = .ok (.aload_n 0, 1) := by decide +kernel
theorem d_Lw_law_104 : decode b_Lw_law 104 = .ok (.iload 4, 2) := by decide +kernel
theorem d_Lw_law_106 : decode b_Lw_law 106 = .ok (.iconst 3, 1) := by decide +kernel
theorem d_Lw_law_107 : decode b_Lw_law 107 = .ok (.iadd, 1) := by decide +kernel
theorem d_Lw_law_108 : decode b_Lw_law 108 = .ok (.iaload, 1) := by decide +kernel
theorem d_Lw_law_109 : decode b_Lw_law 109 = .ok (.aload_n 3, 1) := by decide +kernel
theorem d_Lw_law_110 : decode b_Lw_law 110 = .ok (.invokestatic 46, 3) := by decide +kernel
theorem d_Lw_law_113 : decode b_Lw_law 113 = .ok (.istore 5, 2) := by decide +kernel
theorem d_Lw_law_115 : decode b_Lw_law 115 = .ok (.aload_n 2, 1) := by decide +kernel
theorem d_Lw_law_116 : decode b_Lw_law 116 = .ok (.aload_n 0, 1) := by decide +kernel
theorem d_Lw_law_117 : decode b_Lw_law 117 = .ok (.iload 4, 2) := by decide +kernel
theorem d_Lw_law_119 : decode b_Lw_law 119 = .ok (.iconst 1, 1) := by decide +kernel
theorem d_Lw_law_120 : decode b_Lw_law 120 = .ok (.iadd, 1) := by decide +kernel
theorem d_Lw_law_121 : decode b_Lw_law 121 = .ok (.iaload, 1) := by decide +kernel
theorem d_Lw_law_122 : decode b_Lw_law 122 = .ok (.i2l, 1) := by decide +kernel
theorem d_Lw_law_123 : decode b_Lw_law 123 = .ok (.bipush 32, 2) := by decide +kernel
theorem d_Lw_law_125 : decode b_Lw_law 125 = .ok (.lshl, 1) := by decide +kernel
theorem d_Lw_law_126 : decode b_Lw_law 126 = .ok (.aload_n 0, 1) := by decide +kernel
theorem d_Lw_law_127 : decode b_Lw_law 127 = .ok (.iload 4, 2) := by decide +kernel
theorem d_Lw_law_129 : decode b_Lw_law 129 = .ok (.iconst 2, 1) := by decide +kernel
theorem d_Lw_law_130 : decode b_Lw_law 130 = .ok (.iadd, 1) := by decide +kernel
theorem d_Lw_law_131 : decode b_Lw_law 131 = .ok (.iaload, 1) := by decide +kernel
theorem d_Lw_law_132 : decode b_Lw_law 132 = .ok (.i2l, 1) := by decide +kernel
theorem d_Lw_law_133 : decode b_Lw_law 133 = .ok (.ldc2_w 44, 3) := by decide +kernel
theorem d_Lw_law_136 : decode b_Lw_law 136 = .ok (.land, 1) := by decide +kernel
theorem d_Lw_law_137 : decode b_Lw_law 137 = .ok (.lor, 1) := by decide +kernel
theorem d_Lw_law_138 : decode b_Lw_law 138 = .ok (.aload_n 0, 1) := by decide +kernel
theorem d_Lw_law_139 : decode b_Lw_law 139 = .ok (.iload 4, 2) := by decide +kernel
theorem d_Lw_law_141 : decode b_Lw_law 141 = .ok (.iconst 3, 1) := by decide +kernel
theorem d_Lw_law_142 : decode b_Lw_law 142 = .ok (.iadd, 1) := by decide +kernel
theorem d_Lw_law_143 : decode b_Lw_law 143 = .ok (.iaload, 1) := by decide +kernel
theorem d_Lw_law_144 : decode b_Lw_law 144 = .ok (.invokevirtual 51, 3) := by decide +kernel
theorem d_Lw_law_147 : decode b_Lw_law 147 = .ok (.istore 6, 2) := by decide +kernel
theorem d_Lw_law_149 : decode b_Lw_law 149 = .ok (.aload_n 2, 1) := by decide +kernel
theorem d_Lw_law_150 : decode b_Lw_law 150 = .ok (.invokevirtual 52, 3) := by decide +kernel
theorem d_Lw_law_153 : decode b_Lw_law 153 = .ok (.iload 5, 2) := by decide +kernel
theorem d_Lw_law_155 : decode b_Lw_law 155 = .ok (.if_icmp .eq 5, 3) := by decide +kernel
theorem d_Lw_law_158 : decode b_Lw_law 158 = .ok (.iconst 0, 1) := by decide +kernel
theorem d_Lw_law_159 : decode b_Lw_law 159 = .ok (.ireturn, 1) := by decide +kernel
theorem d_Lw_law_160 : decode b_Lw_law 160 = .ok (.iload 5, 2) := by decide +kernel
theorem d_Lw_law_162 : decode b_Lw_law 162 = .ok (.ifCond .ne 15, 3) := by decide +kernel
theorem d_Lw_law_165 : decode b_Lw_law 165 = .ok (.aload_n 3, 1) := by decide +kernel
theorem d_Lw_law_166 : decode b_Lw_law 166 = .ok (.iconst 0, 1) := by decide +kernel
theorem d_Lw_law_167 : decode b_Lw_law 167 = .ok (.laload, 1) := by decide +kernel
theorem d_Lw_law_168 : decode b_Lw_law 168 = .ok (.iload 6, 2) := by decide +kernel
theorem d_Lw_law_170 : decode b_Lw_law 170 = .ok (.i2l, 1) := by decide +kernel
theorem d_Lw_law_171 : decode b_Lw_law 171 = .ok (.lcmp, 1) := by decide +kernel
theorem d_Lw_law_172 : decode b_Lw_law 172 = .ok (.ifCond .eq 5, 3) := by decide +kernel
theorem d_Lw_law_175 : decode b_Lw_law 175 = .ok (.iconst 0, 1) := by decide +kernel
theorem d_Lw_law_176 : decode b_Lw_law 176 = .ok (.ireturn, 1) := by decide +kernel
theorem d_Lw_law_177 : decode b_Lw_law 177 = .ok (.goto 272, 3) := by decide +kernel
theorem d_Lw_law_180 : decode b_Lw_law 180 = .ok (.aload_n 1, 1) := by decide +kernel
theorem d_Lw_law_181 : decode b_Lw_law 181 = .ok (.aload_n 0, 1) := by decide +kernel
theorem d_Lw_law_182 : decode b_Lw_law 182 = .ok (.iload 4, 2) := by decide +kernel
theorem d_Lw_law_184 : decode b_Lw_law 184 = .ok (.iconst 1, 1) := by decide +kernel
theorem d_Lw_law_185 : decode b_Lw_law 185 = .ok (.iadd, 1) := by decide +kernel
theorem d_Lw_law_186 : decode b_Lw_law 186 = .ok (.iaload, 1) := by decide +kernel
theorem d_Lw_law_187 : decode b_Lw_law 187 = .ok (.aload_n 3, 1) := by decide +kernel
theorem d_Lw_law_188 : decode b_Lw_law 188 = .ok (.invokestatic 55, 3) := by decide +kernel
theorem d_Lw_law_191 : decode b_Lw_law 191 = .ok (.istore 5, 2) := by decide +kernel
theorem d_Lw_law_193 : decode b_Lw_law 193 = .ok (.aload_n 2, 1) := by decide +kernel
theorem d_Lw_law_194 : decode b_Lw_law 194 = .ok (.aload_n 0, 1) := by decide +kernel
theorem d_Lw_law_195 : decode b_Lw_law 195 = .ok (.iload 4, 2) := by decide +kernel
theorem d_Lw_law_197 : decode b_Lw_law 197 = .ok (.iconst 1, 1) := by decide +kernel
theorem d_Lw_law_198 : decode b_Lw_law 198 = .ok (.iadd, 1) := by decide +kernel
theorem d_Lw_law_199 : decode b_Lw_law 199 = .ok (.iaload, 1) := by decide +kernel
theorem d_Lw_law_200 : decode b_Lw_law 200 = .ok (.invokevirtual 58, 3) := by decide +kernel
theorem d_Lw_law_203 : decode b_Lw_law 203 = .ok (.istore 6, 2) := by decide +kernel
theorem d_Lw_law_205 : decode b_Lw_law 205 = .ok (.aload_n 2, 1) := by decide +kernel
theorem d_Lw_law_206 : decode b_Lw_law 206 = .ok (.invokevirtual 52, 3) := by decide +kernel
theorem d_Lw_law_209 : decode b_Lw_law 209 = .ok (.iload 5, 2) := by decide +kernel
theorem d_Lw_law_211 : decode b_Lw_law 211 = .ok (.if_icmp .eq 5, 3) := by decide +kernel
theorem d_Lw_law_214 : decode b_Lw_law 214 = .ok (.iconst 0, 1) := by decide +kernel
theorem d_Lw_law_215 : decode b_Lw_law 215 = .ok (.ireturn, 1) := by decide +kernel
theorem d_Lw_law_216 : decode b_Lw_law 216 = .ok (.iload 5, 2) := by decide +kernel
theorem d_Lw_law_218 : decode b_Lw_law 218 = .ok (.ifCond .ne 15, 3) := by decide +kernel
theorem d_Lw_law_221 : decode b_Lw_law 221 = .ok (.aload_n 3, 1) := by decide +kernel
theorem d_Lw_law_222 : decode b_Lw_law 222 = .ok (.iconst 0, 1) := by decide +kernel
theorem d_Lw_law_223 : decode b_Lw_law 223 = .ok (.laload, 1) := by decide +kernel
theorem d_Lw_law_224 : decode b_Lw_law 224 = .ok (.iload 6, 2) := by decide +kernel
theorem d_Lw_law_226 : decode b_Lw_law 226 = .ok (.i2l, 1) := by decide +kernel
theorem d_Lw_law_227 : decode b_Lw_law 227 = .ok (.lcmp, 1) := by decide +kernel
theorem d_Lw_law_228 : decode b_Lw_law 228 = .ok (.ifCond .eq 5, 3) := by decide +kernel
theorem d_Lw_law_231 : decode b_Lw_law 231 = .ok (.iconst 0, 1) := by decide +kernel
theorem d_Lw_law_232 : decode b_Lw_law 232 = .ok (.ireturn, 1) := by decide +kernel
theorem d_Lw_law_233 : decode b_Lw_law 233 = .ok (.goto 216, 3) := by decide +kernel
theorem d_Lw_law_236 : decode b_Lw_law 236 = .ok (.aload_n 1, 1) := by decide +kernel
theorem d_Lw_law_237 : decode b_Lw_law 237 = .ok (.aload_n 3, 1) := by decide +kernel
theorem d_Lw_law_238 : decode b_Lw_law 238 = .ok (.invokestatic 59, 3) := by decide +kernel
theorem d_Lw_law_241 : decode b_Lw_law 241 = .ok (.istore 5, 2) := by decide +kernel
theorem d_Lw_law_243 : decode b_Lw_law 243 = .ok (.aload_n 2, 1) := by decide +kernel
theorem d_Lw_law_244 : decode b_Lw_law 244 = .ok (.invokevirtual 62, 3) := by decide +kernel
theorem d_Lw_law_247 : decode b_Lw_law 247 = .ok (.istore 6, 2) := by decide +kernel
theorem d_Lw_law_249 : decode b_Lw_law 249 = .ok (.aload_n 2, 1) := by decide +kernel
theorem d_Lw_law_250 : decode b_Lw_law 250 = .ok (.invokevirtual 52, 3) := by decide +kernel
theorem d_Lw_law_253 : decode b_Lw_law 253 = .ok (.iload 5, 2) := by decide +kernel
theorem d_Lw_law_255 : decode b_Lw_law 255 = .ok (.if_icmp .eq 5, 3) := by decide +kernel
theorem d_Lw_law_258 : decode b_Lw_law 258 = .ok (.iconst 0, 1) := by decide +kernel
theorem d_Lw_law_259 : decode b_Lw_law 259 = .ok (.ireturn, 1) := by decide +kernel
theorem d_Lw_law_260 : decode b_Lw_law 260 = .ok (.iload 5, 2) := by decide +kernel
theorem d_Lw_law_262 : decode b_Lw_law 262 = .ok (.ifCond .ne 15, 3) := by decide +kernel
theorem d_Lw_law_265 : decode b_Lw_law 265 = .ok (.aload_n 3, 1) := by decide +kernel
theorem d_Lw_law_266 : decode b_Lw_law 266 = .ok (.iconst 0, 1) := by decide +kernel
theorem d_Lw_law_267 : decode b_Lw_law 267 = .ok (.laload, 1) := by decide +kernel
theorem d_Lw_law_268 : decode b_Lw_law 268 = .ok (.iload 6, 2) := by decide +kernel
theorem d_Lw_law_270 : decode b_Lw_law 270 = .ok (.i2l, 1) := by decide +kernel
theorem d_Lw_law_271 : decode b_Lw_law 271 = .ok (.lcmp, 1) := by decide +kernel
theorem d_Lw_law_272 : decode b_Lw_law 272 = .ok (.ifCond .eq 5, 3) := by decide +kernel
theorem d_Lw_law_275 : decode b_Lw_law 275 = .ok (.iconst 0, 1) := by decide +kernel
theorem d_Lw_law_276 : decode b_Lw_law 276 = .ok (.ireturn, 1) := by decide +kernel
theorem d_Lw_law_277 : decode b_Lw_law 277 = .ok (.goto 172, 3) := by decide +kernel
theorem d_Lw_law_280 : decode b_Lw_law 280 = .ok (.aload_n 1, 1) := by decide +kernel
theorem d_Lw_law_281 : decode b_Lw_law 281 = .ok (.invokevirtual 63, 3) := by decide +kernel
theorem d_Lw_law_284 : decode b_Lw_law 284 = .ok (.aload_n 2, 1) := by decide +kernel
theorem d_Lw_law_285 : decode b_Lw_law 285 = .ok (.invokevirtual 66, 3) := by decide +kernel
theorem d_Lw_law_288 : decode b_Lw_law 288 = .ok (.if_icmp .eq 161, 3) := by decide +kernel
theorem d_Lw_law_291 : decode b_Lw_law 291 = .ok (.iconst 0, 1) := by decide +kernel
theorem d_Lw_law_292 : decode b_Lw_law 292 = .ok (.ireturn, 1) := by decide +kernel
theorem d_Lw_law_293 : decode b_Lw_law 293 = .ok (.aload_n 1, 1) := by decide +kernel
theorem d_Lw_law_294 : decode b_Lw_law 294 = .ok (.aload_n 3, 1) := by decide +kernel
theorem d_Lw_law_295 : decode b_Lw_law 295 = .ok (.invokestatic 67, 3) := by decide +kernel
theorem d_Lw_law_298 : decode b_Lw_law 298 = .ok (.istore 5, 2) := by decide +kernel
theorem d_Lw_law_300 : decode b_Lw_law 300 = .ok (.aload_n 2, 1) := by decide +kernel
theorem d_Lw_law_301 : decode b_Lw_law 301 = .ok (.invokevirtual 69, 3) := by decide +kernel
theorem d_Lw_law_304 : decode b_Lw_law 304 = .ok (.istore 6, 2) := by decide +kernel
theorem d_Lw_law_306 : decode b_Lw_law 306 = .ok (.aload_n 2, 1) := by decide +kernel
theorem d_Lw_law_307 : decode b_Lw_law 307 = .ok (.invokevirtual 52, 3) := by decide +kernel
theorem d_Lw_law_310 : decode b_Lw_law 310 = .ok (.iload 5, 2) := by decide +kernel
theorem d_Lw_law_312 : decode b_Lw_law 312 = .ok (.if_icmp .eq 5, 3) := by decide +kernel
theorem d_Lw_law_315 : decode b_Lw_law 315 = .ok (.iconst 0, 1) := by decide +kernel
theorem d_Lw_law_316 : decode b_Lw_law 316 = .ok (.ireturn, 1) := by decide +kernel
theorem d_Lw_law_317 : decode b_Lw_law 317 = .ok (.iload 5, 2) := by decide +kernel
theorem d_Lw_law_319 : decode b_Lw_law 319 = .ok (.ifCond .ne 15, 3) := by decide +kernel
theorem d_Lw_law_322 : decode b_Lw_law 322 = .ok (.aload_n 3, 1) := by decide +kernel
theorem d_Lw_law_323 : decode b_Lw_law 323 = .ok (.iconst 0, 1) := by decide +kernel
theorem d_Lw_law_324 : decode b_Lw_law 324 = .ok (.laload, 1) := by decide +kernel
theorem d_Lw_law_325 : decode b_Lw_law 325 = .ok (.iload 6, 2) := by decide +kernel
theorem d_Lw_law_327 : decode b_Lw_law 327 = .ok (.i2l, 1) := by decide +kernel
theorem d_Lw_law_328 : decode b_Lw_law 328 = .ok (.lcmp, 1) := by decide +kernel
theorem d_Lw_law_329 : decode b_Lw_law 329 = .ok (.ifCond .eq 5, 3) := by decide +kernel
theorem d_Lw_law_332 : decode b_Lw_law 332 = .ok (.iconst 0, 1) := by decide +kernel
theorem d_Lw_law_333 : decode b_Lw_law 333 = .ok (.ireturn, 1) := by decide +kernel
theorem d_Lw_law_334 : decode b_Lw_law 334 = .ok (.goto 115, 3) := by decide +kernel
theorem d_Lw_law_337 : decode b_Lw_law 337 = .ok (.aload_n 1, 1) := by decide +kernel
theorem d_Lw_law_338 : decode b_Lw_law 338 = .ok (.aload_n 0, 1) := by decide +kernel
theorem d_Lw_law_339 : decode b_Lw_law 339 = .ok (.iload 4, 2) := by decide +kernel
theorem d_Lw_law_341 : decode b_Lw_law 341 = .ok (.iconst 1, 1) := by decide +kernel
theorem d_Lw_law_342 : decode b_Lw_law 342 = .ok (.iadd, 1) := by decide +kernel
theorem d_Lw_law_343 : decode b_Lw_law 343 = .ok (.iaload, 1) := by decide +kernel
theorem d_Lw_law_344 : decode b_Lw_law 344 = .ok (.aload_n 3, 1) := by decide +kernel
theorem d_Lw_law_345 : decode b_Lw_law 345 = .ok (.invokestatic 70, 3) := by decide +kernel
theorem d_Lw_law_348 : decode b_Lw_law 348 = .ok (.istore 5, 2) := by decide +kernel
theorem d_Lw_law_350 : decode b_Lw_law 350 = .ok (.aload_n 2, 1) := by decide +kernel
theorem d_Lw_law_351 : decode b_Lw_law 351 = .ok (.aload_n 0, 1) := by decide +kernel
theorem d_Lw_law_352 : decode b_Lw_law 352 = .ok (.iload 4, 2) := by decide +kernel
theorem d_Lw_law_354 : decode b_Lw_law 354 = .ok (.iconst 1, 1) := by decide +kernel
theorem d_Lw_law_355 : decode b_Lw_law 355 = .ok (.iadd, 1) := by decide +kernel
theorem d_Lw_law_356 : decode b_Lw_law 356 = .ok (.iaload, 1) := by decide +kernel
theorem d_Lw_law_357 : decode b_Lw_law 357 = .ok (.invokevirtual 72, 3) := by decide +kernel
theorem d_Lw_law_360 : decode b_Lw_law 360 = .ok (.istore 6, 2) := by decide +kernel
theorem d_Lw_law_362 : decode b_Lw_law 362 = .ok (.aload_n 2, 1) := by decide +kernel
theorem d_Lw_law_363 : decode b_Lw_law 363 = .ok (.invokevirtual 52, 3) := by decide +kernel
theorem d_Lw_law_366 : decode b_Lw_law 366 = .ok (.iload 5, 2) := by decide +kernel
theorem d_Lw_law_368 : decode b_Lw_law 368 = .ok (.if_icmp .eq 5, 3) := by decide +kernel
theorem d_Lw_law_371 : decode b_Lw_law 371 = .ok (.iconst 0, 1) := by decide +kernel
theorem d_Lw_law_372 : decode b_Lw_law 372 = .ok (.ireturn, 1) := by decide +kernel
theorem d_Lw_law_373 : decode b_Lw_law 373 = .ok (.iload 5, 2) := by decide +kernel
theorem d_Lw_law_375 : decode b_Lw_law 375 = .ok (.ifCond .ne 15, 3) := by decide +kernel
theorem d_Lw_law_378 : decode b_Lw_law 378 = .ok (.aload_n 3, 1) := by decide +kernel
theorem d_Lw_law_379 : decode b_Lw_law 379 = .ok (.iconst 0, 1) := by decide +kernel
theorem d_Lw_law_380 : decode b_Lw_law 380 = .ok (.laload, 1) := by decide +kernel
theorem d_Lw_law_381 : decode b_Lw_law 381 = .ok (.iload 6, 2) := by decide +kernel
theorem d_Lw_law_383 : decode b_Lw_law 383 = .ok (.i2l, 1) := by decide +kernel
theorem d_Lw_law_384 : decode b_Lw_law 384 = .ok (.lcmp, 1) := by decide +kernel
theorem d_Lw_law_385 : decode b_Lw_law 385 = .ok (.ifCond .eq 5, 3) := by decide +kernel
theorem d_Lw_law_388 : decode b_Lw_law 388 = .ok (.iconst 0, 1) := by decide +kernel
theorem d_Lw_law_389 : decode b_Lw_law 389 = .ok (.ireturn, 1) := by decide +kernel
theorem d_Lw_law_390 : decode b_Lw_law 390 = .ok (.goto 59, 3) := by decide +kernel
theorem d_Lw_law_393 : decode b_Lw_law 393 = .ok (.aload_n 1, 1) := by decide +kernel
theorem d_Lw_law_394 : decode b_Lw_law 394 = .ok (.aload_n 0, 1) := by decide +kernel
theorem d_Lw_law_395 : decode b_Lw_law 395 = .ok (.iload 4, 2) := by decide +kernel
theorem d_Lw_law_397 : decode b_Lw_law 397 = .ok (.iconst 1, 1) := by decide +kernel
theorem d_Lw_law_398 : decode b_Lw_law 398 = .ok (.iadd, 1) := by decide +kernel
theorem d_Lw_law_399 : decode b_Lw_law 399 = .ok (.iaload, 1) := by decide +kernel
theorem d_Lw_law_400 : decode b_Lw_law 400 = .ok (.aload_n 3, 1) := by decide +kernel
theorem d_Lw_law_401 : decode b_Lw_law 401 = .ok (.invokestatic 73, 3) := by decide +kernel
theorem d_Lw_law_404 : decode b_Lw_law 404 = .ok (.istore 5, 2) := by decide +kernel
theorem d_Lw_law_406 : decode b_Lw_law 406 = .ok (.aload_n 2, 1) := by decide +kernel
theorem d_Lw_law_407 : decode b_Lw_law 407 = .ok (.aload_n 0, 1) := by decide +kernel
theorem d_Lw_law_408 : decode b_Lw_law 408 = .ok (.iload 4, 2) := by decide +kernel
theorem d_Lw_law_410 : decode b_Lw_law 410 = .ok (.iconst 1, 1) := by decide +kernel
theorem d_Lw_law_411 : decode b_Lw_law 411 = .ok (.iadd, 1) := by decide +kernel
theorem d_Lw_law_412 : decode b_Lw_law 412 = .ok (.iaload, 1) := by decide +kernel
theorem d_Lw_law_413 : decode b_Lw_law 413 = .ok (.invokevirtual 75, 3) := by decide +kernel
theorem d_Lw_law_416 : decode b_Lw_law 416 = .ok (.istore 6, 2) := by decide +kernel
theorem d_Lw_law_418 : decode b_Lw_law 418 = .ok (.aload_n 2, 1) := by decide +kernel
theorem d_Lw_law_419 : decode b_Lw_law 419 = .ok (.invokevirtual 52, 3) := by decide +kernel
theorem d_Lw_law_422 : decode b_Lw_law 422 = .ok (.iload 5, 2) := by decide +kernel
theorem d_Lw_law_424 : decode b_Lw_law 424 = .ok (.if_icmp .eq 5, 3) := by decide +kernel
theorem d_Lw_law_427 : decode b_Lw_law 427 = .ok (.iconst 0, 1) := by decide +kernel
theorem d_Lw_law_428 : decode b_Lw_law 428 = .ok (.ireturn, 1) := by decide +kernel
theorem d_Lw_law_429 : decode b_Lw_law 429 = .ok (.iload 5, 2) := by decide +kernel
theorem d_Lw_law_431 : decode b_Lw_law 431 = .ok (.ifCond .ne 15, 3) := by decide +kernel
theorem d_Lw_law_434 : decode b_Lw_law 434 = .ok (.aload_n 3, 1) := by decide +kernel
theorem d_Lw_law_435 : decode b_Lw_law 435 = .ok (.iconst 0, 1) := by decide +kernel
theorem d_Lw_law_436 : decode b_Lw_law 436 = .ok (.laload, 1) := by decide +kernel
theorem d_Lw_law_437 : decode b_Lw_law 437 = .ok (.iload 6, 2) := by decide +kernel
theorem d_Lw_law_439 : decode b_Lw_law 439 = .ok (.i2l, 1) := by decide +kernel
theorem d_Lw_law_440 : decode b_Lw_law 440 = .ok (.lcmp, 1) := by decide +kernel
theorem d_Lw_law_441 : decode b_Lw_law 441 = .ok (.ifCond .eq 5, 3) := by decide +kernel
theorem d_Lw_law_444 : decode b_Lw_law 444 = .ok (.iconst 0, 1) := by decide +kernel
theorem d_Lw_law_445 : decode b_Lw_law 445 = .ok (.ireturn, 1) := by decide +kernel
theorem d_Lw_law_446 : decode b_Lw_law 446 = .ok (.goto 3, 3) := by decide +kernel
theorem d_Lw_law_449 : decode b_Lw_law 449 = .ok (.iinc 4 4, 3) := by decide +kernel
theorem d_Lw_law_452 : decode b_Lw_law 452 = .ok (.goto (-429), 3) := by decide +kernel
theorem d_Lw_law_455 : decode b_Lw_law 455 = .ok (.iconst 1, 1) := by decide +kernel
theorem d_Lw_law_456 : decode b_Lw_law 456 = .ok (.ireturn, 1) := by decide +kernel
end
section
theorem d_Mc_init_0 : decode b_Mc_init 0 = .ok (.aload_n 0, 1) := by decide +kernel
theorem d_Mc_init_1 : decode b_Mc_init 1 = .ok (.invokespecial 5, 3) := by decide +kernel
theorem d_Mc_init_4 : decode b_Mc_init 4 = .ok (.aload_n 0, 1) := by decide +kernel
theorem d_Mc_init_5 : decode b_Mc_init 5 = .ok (.new 11, 3) := by decide +kernel
theorem d_Mc_init_8 : decode b_Mc_init 8 = .ok (.dup, 1) := by decide +kernel
theorem d_Mc_init_9 : decode b_Mc_init 9 = .ok (.invokespecial 13, 3) := by decide +kernel
theorem d_Mc_init_12 : decode b_Mc_init 12 = .ok (.putfield 14, 3) := by decide +kernel
theorem d_Mc_init_15 : decode b_Mc_init 15 = .ok (.aload_n 0, 1) := by decide +kernel
theorem d_Mc_init_16 : decode b_Mc_init 16 = .ok (.sipush 132, 3) := by decide +kernel
theorem d_Mc_init_19 : decode b_Mc_init 19 = .ok (.newarray .int, 2) := by decide +kernel
theorem d_Mc_init_21 : decode b_Mc_init 21 = .ok (.putfield 18, 3) := by decide +kernel
theorem d_Mc_init_24 : decode b_Mc_init 24 = .ok (.aload_n 0, 1) := by decide +kernel
theorem d_Mc_init_25 : decode b_Mc_init 25 = .ok (.bipush 11, 2) := by decide +kernel
theorem d_Mc_init_27 : decode b_Mc_init 27 = .ok (.newarray .int, 2) := by decide +kernel
theorem d_Mc_init_29 : decode b_Mc_init 29 = .ok (.putfield 22, 3) := by decide +kernel
theorem d_Mc_init_32 : decode b_Mc_init 32 = .ok (.aload_n 0, 1) := by decide +kernel
theorem d_Mc_init_33 : decode b_Mc_init 33 = .ok (.bipush 11, 2) := by decide +kernel
theorem d_Mc_init_35 : decode b_Mc_init 35 = .ok (.newarray .int, 2) := by decide +kernel
theorem d_Mc_init_37 : decode b_Mc_init 37 = .ok (.putfield 25, 3) := by decide +kernel
theorem d_Mc_init_40 : decode b_Mc_init 40 = .ok (.aload_n 0, 1) := by decide +kernel
theorem d_Mc_init_41 : decode b_Mc_init 41 = .ok (.bipush 21, 2) := by decide +kernel
theorem d_Mc_init_43 : decode b_Mc_init 43 = .ok (.newarray .int, 2) := by decide +kernel
theorem d_Mc_init_45 : decode b_Mc_init 45 = .ok (.putfield 28, 3) := by decide +kernel
theorem d_Mc_init_48 : decode b_Mc_init 48 = .ok (.aload_n 0, 1) := by decide +kernel
theorem d_Mc_init_49 : decode b_Mc_init 49 = .ok (.iconst 0, 1) := by decide +kernel
theorem d_Mc_init_50 : decode b_Mc_init 50 = .ok (.putfield 31, 3) := by decide +kernel
theorem d_Mc_init_53 : decode b_Mc_init 53 = .ok (.aload_n 0, 1) := by decide +kernel
theorem d_Mc_init_54 : decode b_Mc_init 54 = .ok (.iconst 0, 1) := by decide +kernel
theorem d_Mc_init_55 : decode b_Mc_init 55 = .ok (.putfield 35, 3) := by decide +kernel
theorem d_Mc_init_58 : decode b_Mc_init 58 = .ok (.aload_n 0, 1) := by decide +kernel
theorem d_Mc_init_59 : decode b_Mc_init 59 = .ok (.iconst 0, 1) := by decide +kernel
theorem d_Mc_init_60 : decode b_Mc_init 60 = .ok (.putfield 38, 3) := by decide +kernel
theorem d_Mc_init_63 : decode b_Mc_init 63 = .ok (.aload_n 0, 1) := by decide +kernel
theorem d_Mc_init_64 : decode b_Mc_init 64 = .ok (.bipush 32, 2) := by decide +kernel
theorem d_Mc_init_66 : decode b_Mc_init 66 = .ok (.newarray .int, 2) := by decide +kernel
theorem d_Mc_init_68 : decode b_Mc_init 68 = .ok (.putfield 41, 3) := by decide +kernel
theorem d_Mc_init_71 : decode b_Mc_init 71 = .ok (.aload_n 0, 1) := by decide +kernel
theorem d_Mc_init_72 : decode b_Mc_init 72 = .ok (.iconst 0, 1) := by decide +kernel
theorem d_Mc_init_73 : decode b_Mc_init 73 = .ok (.putfield 44, 3) := by decide +kernel
theorem d_Mc_init_76 : decode b_Mc_init 76 = .ok (.aload_n 0, 1) := by decide +kernel
theorem d_Mc_init_77 : decode b_Mc_init 77 = .ok (.iconst 0, 1) := by decide +kernel
theorem d_Mc_init_78 : decode b_Mc_init 78 = .ok (.putfield 47, 3) := by decide +kernel
theorem d_Mc_init_81 : decode b_Mc_init 81 = .ok (.aload_n 0, 1) := by decide +kernel
theorem d_Mc_init_82 : decode b_Mc_init 82 = .ok (.iconst 0, 1) := by decide +kernel
theorem d_Mc_init_83 : decode b_Mc_init 83 = .ok (.putfield 50, 3) := by decide +kernel
theorem d_Mc_init_86 : decode b_Mc_init 86 = .ok (.aload_n 0, 1) := by decide +kernel
theorem d_Mc_init_87 : decode b_Mc_init 87 = .ok (.iconst 0, 1) := by decide +kernel
theorem d_Mc_init_88 : decode b_Mc_init 88 = .ok (.putfield 53, 3) := by decide +kernel
theorem d_Mc_init_91 : decode b_Mc_init 91 = .ok (.return_, 1) := by decide +kernel
theorem d_Mc_execute_0 : decode b_Mc_execute 0 = .ok (.aload_n 0, 1) := by decide +kernel
theorem d_Mc_execute_1 : decode b_Mc_execute 1 = .ok (.invokevirtual 56, 3) := by decide +kernel
theorem d_Mc_execute_4 : decode b_Mc_execute 4 = .ok (.iconst 0, 1) := by decide +kernel
theorem d_Mc_execute_5 : decode b_Mc_execute 5 = .ok (.istore_n 1, 1) := by decide +kernel
theorem d_Mc_execute_6 : decode b_Mc_execute 6 = .ok (.iload_n 1, 1) := by decide +kernel
theorem d_Mc_execute_7 : decode b_Mc_execute 7 = .ok (.ldc 59, 2) := by decide +kernel
theorem d_Mc_execute_9 : decode b_Mc_execute 9 = .ok (.if_icmp .ge 69, 3) := by decide +kernel
theorem d_Mc_execute_12 : decode b_Mc_execute 12 = .ok (.aload_n 0, 1) := by decide +kernel
theorem d_Mc_execute_13 : decode b_Mc_execute 13 = .ok (.getfield 38, 3) := by decide +kernel
theorem d_Mc_execute_16 : decode b_Mc_execute 16 = .ok (.aload_n 0, 1) := by decide +kernel
theorem d_Mc_execute_17 : decode b_Mc_execute 17 = .ok (.getfield 14, 3) := by decide +kernel
theorem d_Mc_execute_20 : decode b_Mc_execute 20 = .ok (.getfield 60, 3) := by decide +kernel
theorem d_Mc_execute_23 : decode b_Mc_execute 23 = .ok (.if_icmp .ge 55, 3) := by decide +kernel
theorem d_Mc_execute_26 : decode b_Mc_execute 26 = .ok (.aload_n 0, 1) := by decide +kernel
theorem d_Mc_execute_27 : decode b_Mc_execute 27 = .ok (.getfield 38, 3) := by decide +kernel
theorem d_Mc_execute_30 : decode b_Mc_execute 30 = .ok (.istore_n 2, 1) := by decide +kernel
theorem d_Mc_execute_31 : decode b_Mc_execute 31 = .ok (.aload_n 0, 1) := by decide +kernel
theorem d_Mc_execute_32 : decode b_Mc_execute 32 = .ok (.dup, 1) := by decide +kernel
theorem d_Mc_execute_33 : decode b_Mc_execute 33 = .ok (.getfield 38, 3) := by decide +kernel
theorem d_Mc_execute_36 : decode b_Mc_execute 36 = .ok (.iconst 1, 1) := by decide +kernel
theorem d_Mc_execute_37 : decode b_Mc_execute 37 = .ok (.iadd, 1) := by decide +kernel
theorem d_Mc_execute_38 : decode b_Mc_execute 38 = .ok (.putfield 38, 3) := by decide +kernel
theorem d_Mc_execute_41 : decode b_Mc_execute 41 = .ok (.aload_n 0, 1) := by decide +kernel
theorem d_Mc_execute_42 : decode b_Mc_execute 42 = .ok (.aload_n 0, 1) := by decide +kernel
theorem d_Mc_execute_43 : decode b_Mc_execute 43 = .ok (.getfield 14, 3) := by decide +kernel
theorem d_Mc_execute_46 : decode b_Mc_execute 46 = .ok (.getfield 63, 3) := by decide +kernel
theorem d_Mc_execute_49 : decode b_Mc_execute 49 = .ok (.iload_n 2, 1) := by decide +kernel
theorem d_Mc_execute_50 : decode b_Mc_execute 50 = .ok (.iaload, 1) := by decide +kernel
theorem d_Mc_execute_51 : decode b_Mc_execute 51 = .ok (.aload_n 0, 1) := by decide +kernel
theorem d_Mc_execute_52 : decode b_Mc_execute 52 = .ok (.getfield 14, 3) := by decide +kernel
theorem d_Mc_execute_55 : decode b_Mc_execute 55 = .ok (.getfield 66, 3) := by decide +kernel
theorem d_Mc_execute_58 : decode b_Mc_execute 58 = .ok (.iload_n 2, 1) := by decide +kernel
theorem d_Mc_execute_59 : decode b_Mc_execute 59 = .ok (.iaload, 1) := by decide +kernel
theorem d_Mc_execute_60 : decode b_Mc_execute 60 = .ok (.aload_n 0, 1) := by decide +kernel
theorem d_Mc_execute_61 : decode b_Mc_execute 61 = .ok (.getfield 14, 3) := by decide +kernel
theorem d_Mc_execute_64 : decode b_Mc_execute 64 = .ok (.getfield 69, 3) := by decide +kernel
theorem d_Mc_execute_67 : decode b_Mc_execute 67 = .ok (.iload_n 2, 1) := by decide +kernel
theorem d_Mc_execute_68 : decode b_Mc_execute 68 = .ok (.iaload, 1) := by decide +kernel
theorem d_Mc_execute_69 : decode b_Mc_execute 69 = .ok (.invokevirtual 72, 3) := by decide +kernel
theorem d_Mc_execute_72 : decode b_Mc_execute 72 = .ok (.iinc 1 1, 3) := by decide +kernel
theorem d_Mc_execute_75 : decode b_Mc_execute 75 = .ok (.goto (-69), 3) := by decide +kernel
theorem d_Mc_execute_78 : decode b_Mc_execute 78 = .ok (.return_, 1) := by decide +kernel
theorem d_Mc_begin_0 : decode b_Mc_begin 0 = .ok (.aload_n 0, 1) := by decide +kernel
theorem d_Mc_begin_1 : decode b_Mc_begin 1 = .ok (.aload_n 0, 1) := by decide +kernel
theorem d_Mc_begin_2 : decode b_Mc_begin 2 = .ok (.getfield 14, 3) := by decide +kernel
theorem d_Mc_begin_5 : decode b_Mc_begin 5 = .ok (.getfield 76, 3) := by decide +kernel
theorem d_Mc_begin_8 : decode b_Mc_begin 8 = .ok (.putfield 38, 3) := by decide +kernel
theorem d_Mc_begin_11 : decode b_Mc_begin 11 = .ok (.aload_n 0, 1) := by decide +kernel
theorem d_Mc_begin_12 : decode b_Mc_begin 12 = .ok (.iconst 0, 1) := by decide +kernel
theorem d_Mc_begin_13 : decode b_Mc_begin 13 = .ok (.putfield 31, 3) := by decide +kernel
theorem d_Mc_begin_16 : decode b_Mc_begin 16 = .ok (.aload_n 0, 1) := by decide +kernel
theorem d_Mc_begin_17 : decode b_Mc_begin 17 = .ok (.iconst 0, 1) := by decide +kernel
theorem d_Mc_begin_18 : decode b_Mc_begin 18 = .ok (.putfield 35, 3) := by decide +kernel
theorem d_Mc_begin_21 : decode b_Mc_begin 21 = .ok (.aload_n 0, 1) := by decide +kernel
theorem d_Mc_begin_22 : decode b_Mc_begin 22 = .ok (.iconst 0, 1) := by decide +kernel
theorem d_Mc_begin_23 : decode b_Mc_begin 23 = .ok (.putfield 44, 3) := by decide +kernel
theorem d_Mc_begin_26 : decode b_Mc_begin 26 = .ok (.aload_n 0, 1) := by decide +kernel
theorem d_Mc_begin_27 : decode b_Mc_begin 27 = .ok (.iconst 0, 1) := by decide +kernel
theorem d_Mc_begin_28 : decode b_Mc_begin 28 = .ok (.putfield 47, 3) := by decide +kernel
theorem d_Mc_begin_31 : decode b_Mc_begin 31 = .ok (.aload_n 0, 1) := by decide +kernel
theorem d_Mc_begin_32 : decode b_Mc_begin 32 = .ok (.iconst 0, 1) := by decide +kernel
theorem d_Mc_begin_33 : decode b_Mc_begin 33 = .ok (.putfield 50, 3) := by decide +kernel
theorem d_Mc_begin_36 : decode b_Mc_begin 36 = .ok (.aload_n 0, 1) := by decide +kernel
theorem d_Mc_begin_37 : decode b_Mc_begin 37 = .ok (.iconst 0, 1) := by decide +kernel
theorem d_Mc_begin_38 : decode b_Mc_begin 38 = .ok (.putfield 53, 3) := by decide +kernel
theorem d_Mc_begin_41 : decode b_Mc_begin 41 = .ok (.aload_n 0, 1) := by decide +kernel
theorem d_Mc_begin_42 : decode b_Mc_begin 42 = .ok (.invokevirtual 79, 3) := by decide +kernel
theorem d_Mc_begin_45 : decode b_Mc_begin 45 = .ok (.return_, 1) := by decide +kernel
theorem d_Mc_clearFrame_0 : decode b_Mc_clearFrame 0 = .ok (.iconst 0, 1) := by decide +kernel
theorem d_Mc_clearFrame_1 : decode b_Mc_clearFrame 1 = .ok (.istore_n 1, 1) := by decide +kernel
theorem d_Mc_clearFrame_2 : decode b_Mc_clearFrame 2 = .ok (.iload_n 1, 1) := by decide +kernel
theorem d_Mc_clearFrame_3 : decode b_Mc_clearFrame 3 = .ok (.bipush 12, 2) := by decide +kernel
theorem d_Mc_clearFrame_5 : decode b_Mc_clearFrame 5 = .ok (.if_icmp .ge 23, 3) := by decide +kernel
theorem d_Mc_clearFrame_8 : decode b_Mc_clearFrame 8 = .ok (.aload_n 0, 1) := by decide +kernel
theorem d_Mc_clearFrame_9 : decode b_Mc_clearFrame 9 = .ok (.aload_n 0, 1) := by decide +kernel
theorem d_Mc_clearFrame_10 : decode b_Mc_clearFrame 10 = .ok (.getfield 35, 3) := by decide +kernel
theorem d_Mc_clearFrame_13 : decode b_Mc_clearFrame 13 = .ok (.bipush 12, 2) := by decide +kernel
theorem d_Mc_clearFrame_15 : decode b_Mc_clearFrame 15 = .ok (.imul, 1) := by decide +kernel
theorem d_Mc_clearFrame_16 : decode b_Mc_clearFrame 16 = .ok (.iload_n 1, 1) := by decide +kernel
theorem d_Mc_clearFrame_17 : decode b_Mc_clearFrame 17 = .ok (.iadd, 1) := by decide +kernel
theorem d_Mc_clearFrame_18 : decode b_Mc_clearFrame 18 = .ok (.iconst 0, 1) := by decide +kernel
theorem d_Mc_clearFrame_19 : decode b_Mc_clearFrame 19 = .ok (.invokevirtual 82, 3) := by decide +kernel
theorem d_Mc_clearFrame_22 : decode b_Mc_clearFrame 22 = .ok (.iinc 1 1, 3) := by decide +kernel
theorem d_Mc_clearFrame_25 : decode b_Mc_clearFrame 25 = .ok (.goto (-23), 3) := by decide +kernel
theorem d_Mc_clearFrame_28 : decode b_Mc_clearFrame 28 = .ok (.return_, 1) := by decide +kernel
theorem d_Mc_perform_0 : decode b_Mc_perform 0 = .ok (.iload_n 1, 1) := by decide +kernel
theorem d_Mc_perform_1 : decode b_Mc_perform 1 = .ok (.tableswitch 276 0 20 #[99, 106, 114, 131, 152, 165, 182, 203, 276, 276, 276, 276, 276, 276, 276, 276, 215, 223, 245, 258, 265], 99) := by decide +kernel
theorem d_Mc_perform_100 : decode b_Mc_perform 100 = .ok (.aload_n 0, 1) := by decide +kernel
theorem d_Mc_perform_101 : decode b_Mc_perform 101 = .ok (.invokevirtual 86, 3) := by decide +kernel
theorem d_Mc_perform_104 : decode b_Mc_perform 104 = .ok (.goto 178, 3) := by decide +kernel
theorem d_Mc_perform_107 : decode b_Mc_perform 107 = .ok (.aload_n 0, 1) := by decide +kernel
theorem d_Mc_perform_108 : decode b_Mc_perform 108 = .ok (.iload_n 2, 1) := by decide +kernel
theorem d_Mc_perform_109 : decode b_Mc_perform 109 = .ok (.invokevirtual 89, 3) := by decide +kernel
theorem d_Mc_perform_112 : decode b_Mc_perform 112 = .ok (.goto 170, 3) := by decide +kernel
theorem d_Mc_perform_115 : decode b_Mc_perform 115 = .ok (.aload_n 0, 1) := by decide +kernel
theorem d_Mc_perform_116 : decode b_Mc_perform 116 = .ok (.aload_n 0, 1) := by decide +kernel
theorem d_Mc_perform_117 : decode b_Mc_perform 117 = .ok (.aload_n 0, 1) := by decide +kernel
theorem d_Mc_perform_118 : decode b_Mc_perform 118 = .ok (.iload_n 2, 1) := by decide +kernel
theorem d_Mc_perform_119 : decode b_Mc_perform 119 = .ok (.iload_n 3, 1) := by decide +kernel
theorem d_Mc_perform_120 : decode b_Mc_perform 120 = .ok (.invokevirtual 93, 3) := by decide +kernel
theorem d_Mc_perform_123 : decode b_Mc_perform 123 = .ok (.invokevirtual 97, 3) := by decide +kernel
theorem d_Mc_perform_126 : decode b_Mc_perform 126 = .ok (.invokevirtual 89, 3) := by decide +kernel
theorem d_Mc_perform_129 : decode b_Mc_perform 129 = .ok (.goto 153, 3) := by decide +kernel
theorem d_Mc_perform_132 : decode b_Mc_perform 132 = .ok (.aload_n 0, 1) := by decide +kernel
theorem d_Mc_perform_133 : decode b_Mc_perform 133 = .ok (.aload_n 0, 1) := by decide +kernel
theorem d_Mc_perform_134 : decode b_Mc_perform 134 = .ok (.aload_n 0, 1) := by decide +kernel
theorem d_Mc_perform_135 : decode b_Mc_perform 135 = .ok (.aload_n 0, 1) := by decide +kernel
theorem d_Mc_perform_136 : decode b_Mc_perform 136 = .ok (.iload_n 2, 1) := by decide +kernel
theorem d_Mc_perform_137 : decode b_Mc_perform 137 = .ok (.iload_n 3, 1) := by decide +kernel
theorem d_Mc_perform_138 : decode b_Mc_perform 138 = .ok (.invokevirtual 93, 3) := by decide +kernel
theorem d_Mc_perform_141 : decode b_Mc_perform 141 = .ok (.invokevirtual 97, 3) := by decide +kernel
theorem d_Mc_perform_144 : decode b_Mc_perform 144 = .ok (.invokevirtual 97, 3) := by decide +kernel
theorem d_Mc_perform_147 : decode b_Mc_perform 147 = .ok (.invokevirtual 89, 3) := by decide +kernel
theorem d_Mc_perform_150 : decode b_Mc_perform 150 = .ok (.goto 132, 3) := by decide +kernel
theorem d_Mc_perform_153 : decode b_Mc_perform 153 = .ok (.aload_n 0, 1) := by decide +kernel
theorem d_Mc_perform_154 : decode b_Mc_perform 154 = .ok (.aload_n 0, 1) := by decide +kernel
theorem d_Mc_perform_155 : decode b_Mc_perform 155 = .ok (.iload_n 2, 1) := by decide +kernel
theorem d_Mc_perform_156 : decode b_Mc_perform 156 = .ok (.iload_n 3, 1) := by decide +kernel
theorem d_Mc_perform_157 : decode b_Mc_perform 157 = .ok (.invokevirtual 93, 3) := by decide +kernel
theorem d_Mc_perform_160 : decode b_Mc_perform 160 = .ok (.invokevirtual 89, 3) := by decide +kernel
theorem d_Mc_perform_163 : decode b_Mc_perform 163 = .ok (.goto 119, 3) := by decide +kernel
theorem d_Mc_perform_166 : decode b_Mc_perform 166 = .ok (.aload_n 0, 1) := by decide +kernel
theorem d_Mc_perform_167 : decode b_Mc_perform 167 = .ok (.aload_n 0, 1) := by decide +kernel
theorem d_Mc_perform_168 : decode b_Mc_perform 168 = .ok (.iload_n 2, 1) := by decide +kernel
theorem d_Mc_perform_169 : decode b_Mc_perform 169 = .ok (.iload_n 3, 1) := by decide +kernel
theorem d_Mc_perform_170 : decode b_Mc_perform 170 = .ok (.invokevirtual 93, 3) := by decide +kernel
theorem d_Mc_perform_173 : decode b_Mc_perform 173 = .ok (.aload_n 0, 1) := by decide +kernel
theorem d_Mc_perform_174 : decode b_Mc_perform 174 = .ok (.invokevirtual 101, 3) := by decide +kernel
theorem d_Mc_perform_177 : decode b_Mc_perform 177 = .ok (.invokevirtual 82, 3) := by decide +kernel
theorem d_Mc_perform_180 : decode b_Mc_perform 180 = .ok (.goto 102, 3) := by decide +kernel
theorem d_Mc_perform_183 : decode b_Mc_perform 183 = .ok (.aload_n 0, 1) := by decide +kernel
theorem d_Mc_perform_184 : decode b_Mc_perform 184 = .ok (.aload_n 0, 1) := by decide +kernel
theorem d_Mc_perform_185 : decode b_Mc_perform 185 = .ok (.aload_n 0, 1) := by decide +kernel
theorem d_Mc_perform_186 : decode b_Mc_perform 186 = .ok (.iload_n 2, 1) := by decide +kernel
theorem d_Mc_perform_187 : decode b_Mc_perform 187 = .ok (.iload_n 3, 1) := by decide +kernel
theorem d_Mc_perform_188 : decode b_Mc_perform 188 = .ok (.invokevirtual 93, 3) := by decide +kernel
theorem d_Mc_perform_191 : decode b_Mc_perform 191 = .ok (.invokevirtual 97, 3) := by decide +kernel
theorem d_Mc_perform_194 : decode b_Mc_perform 194 = .ok (.aload_n 0, 1) := by decide +kernel
theorem d_Mc_perform_195 : decode b_Mc_perform 195 = .ok (.invokevirtual 101, 3) := by decide +kernel
theorem d_Mc_perform_198 : decode b_Mc_perform 198 = .ok (.invokevirtual 82, 3) := by decide +kernel
theorem d_Mc_perform_201 : decode b_Mc_perform 201 = .ok (.goto 81, 3) := by decide +kernel
theorem d_Mc_perform_204 : decode b_Mc_perform 204 = .ok (.aload_n 0, 1) := by decide +kernel
theorem d_Mc_perform_205 : decode b_Mc_perform 205 = .ok (.aload_n 0, 1) := by decide +kernel
theorem d_Mc_perform_206 : decode b_Mc_perform 206 = .ok (.invokevirtual 101, 3) := by decide +kernel
theorem d_Mc_perform_209 : decode b_Mc_perform 209 = .ok (.ineg, 1) := by decide +kernel
theorem d_Mc_perform_210 : decode b_Mc_perform 210 = .ok (.invokevirtual 89, 3) := by decide +kernel
theorem d_Mc_perform_213 : decode b_Mc_perform 213 = .ok (.goto 69, 3) := by decide +kernel
theorem d_Mc_perform_216 : decode b_Mc_perform 216 = .ok (.aload_n 0, 1) := by decide +kernel
theorem d_Mc_perform_217 : decode b_Mc_perform 217 = .ok (.iload_n 2, 1) := by decide +kernel
theorem d_Mc_perform_218 : decode b_Mc_perform 218 = .ok (.putfield 38, 3) := by decide +kernel
theorem d_Mc_perform_221 : decode b_Mc_perform 221 = .ok (.goto 61, 3) := by decide +kernel
theorem d_Mc_perform_224 : decode b_Mc_perform 224 = .ok (.aload_n 0, 1) := by decide +kernel
theorem d_Mc_perform_225 : decode b_Mc_perform 225 = .ok (.aload_n 0, 1) := by decide +kernel
theorem d_Mc_perform_226 : decode b_Mc_perform 226 = .ok (.invokevirtual 101, 3) := by decide +kernel
theorem d_Mc_perform_229 : decode b_Mc_perform 229 = .ok (.ifCond .ne 7, 3) := by decide +kernel
theorem d_Mc_perform_232 : decode b_Mc_perform 232 = .ok (.iload_n 2, 1) := by decide +kernel
theorem d_Mc_perform_233 : decode b_Mc_perform 233 = .ok (.goto 7, 3) := by decide +kernel
theorem d_Mc_perform_236 : decode b_Mc_perform 236 = .ok (.aload_n 0, 1) := by decide +kernel
theorem d_Mc_perform_237 : decode b_Mc_perform 237 = .ok (.getfield 38, 3) := by decide +kernel
theorem d_Mc_perform_240 : decode b_Mc_perform 240 = .ok (.putfield 38, 3) := by decide +kernel
theorem d_Mc_perform_243 : decode b_Mc_perform 243 = .ok (.goto 39, 3) := by decide +kernel
theorem d_Mc_perform_246 : decode b_Mc_perform 246 = .ok (.aload_n 0, 1) := by decide +kernel
theorem d_Mc_perform_247 : decode b_Mc_perform 247 = .ok (.aload_n 0, 1) := by decide +kernel
theorem d_Mc_perform_248 : decode b_Mc_perform 248 = .ok (.iload_n 2, 1) := by decide +kernel
theorem d_Mc_perform_249 : decode b_Mc_perform 249 = .ok (.invokevirtual 105, 3) := by decide +kernel
theorem d_Mc_perform_252 : decode b_Mc_perform 252 = .ok (.iload_n 3, 1) := by decide +kernel
theorem d_Mc_perform_253 : decode b_Mc_perform 253 = .ok (.invokevirtual 108, 3) := by decide +kernel
theorem d_Mc_perform_256 : decode b_Mc_perform 256 = .ok (.goto 26, 3) := by decide +kernel
theorem d_Mc_perform_259 : decode b_Mc_perform 259 = .ok (.aload_n 0, 1) := by decide +kernel
theorem d_Mc_perform_260 : decode b_Mc_perform 260 = .ok (.invokevirtual 111, 3) := by decide +kernel
theorem d_Mc_perform_263 : decode b_Mc_perform 263 = .ok (.goto 19, 3) := by decide +kernel
theorem d_Mc_perform_266 : decode b_Mc_perform 266 = .ok (.aload_n 0, 1) := by decide +kernel
theorem d_Mc_perform_267 : decode b_Mc_perform 267 = .ok (.aload_n 0, 1) := by decide +kernel
theorem d_Mc_perform_268 : decode b_Mc_perform 268 = .ok (.invokevirtual 101, 3) := by decide +kernel
theorem d_Mc_perform_271 : decode b_Mc_perform 271 = .ok (.invokevirtual 114, 3) := by decide +kernel
theorem d_Mc_perform_274 : decode b_Mc_perform 274 = .ok (.goto 8, 3) := by decide +kernel
theorem d_Mc_perform_277 : decode b_Mc_perform 277 = .ok (.aload_n 0, 1) := by decide +kernel
theorem d_Mc_perform_278 : decode b_Mc_perform 278 = .ok (.iload_n 1, 1) := by decide +kernel
theorem d_Mc_perform_279 : decode b_Mc_perform 279 = .ok (.invokevirtual 117, 3) := by decide +kernel
theorem d_Mc_perform_282 : decode b_Mc_perform 282 = .ok (.return_, 1) := by decide +kernel
theorem d_Mc_takeStep_0 : decode b_Mc_takeStep 0 = .ok (.aload_n 0, 1) := by decide +kernel
theorem d_Mc_takeStep_1 : decode b_Mc_takeStep 1 = .ok (.getfield 50, 3) := by decide +kernel
theorem d_Mc_takeStep_4 : decode b_Mc_takeStep 4 = .ok (.sipush 400, 3) := by decide +kernel
theorem d_Mc_takeStep_7 : decode b_Mc_takeStep 7 = .ok (.if_icmp .ne 11, 3) := by decide +kernel
theorem d_Mc_takeStep_10 : decode b_Mc_takeStep 10 = .ok (.new 120, 3) := by decide +kernel
theorem d_Mc_takeStep_13 : decode b_Mc_takeStep 13 = .ok (.dup, 1) := by decide +kernel
theorem d_Mc_takeStep_14 : decode b_Mc_takeStep 14 = .ok (.invokespecial 122, 3) := by decide +kernel
theorem d_Mc_takeStep_17 : decode b_Mc_takeStep 17 = .ok (.athrow, 1) := by decide +kernel
theorem d_Mc_takeStep_18 : decode b_Mc_takeStep 18 = .ok (.aload_n 0, 1) := by decide +kernel
theorem d_Mc_takeStep_19 : decode b_Mc_takeStep 19 = .ok (.dup, 1) := by decide +kernel
theorem d_Mc_takeStep_20 : decode b_Mc_takeStep 20 = .ok (.getfield 50, 3) := by decide +kernel
theorem d_Mc_takeStep_23 : decode b_Mc_takeStep 23 = .ok (.iconst 1, 1) := by decide +kernel
theorem d_Mc_takeStep_24 : decode b_Mc_takeStep 24 = .ok (.iadd, 1) := by decide +kernel
theorem d_Mc_takeStep_25 : decode b_Mc_takeStep 25 = .ok (.putfield 50, 3) := by decide +kernel
theorem d_Mc_takeStep_28 : decode b_Mc_takeStep 28 = .ok (.return_, 1) := by decide +kernel
theorem d_Mc_combine_0 : decode b_Mc_combine 0 = .ok (.aload_n 0, 1) := by decide +kernel
theorem d_Mc_combine_1 : decode b_Mc_combine 1 = .ok (.invokevirtual 101, 3) := by decide +kernel
theorem d_Mc_combine_4 : decode b_Mc_combine 4 = .ok (.istore_n 2, 1) := by decide +kernel
theorem d_Mc_combine_5 : decode b_Mc_combine 5 = .ok (.aload_n 0, 1) := by decide +kernel
theorem d_Mc_combine_6 : decode b_Mc_combine 6 = .ok (.invokevirtual 101, 3) := by decide +kernel
theorem d_Mc_combine_9 : decode b_Mc_combine 9 = .ok (.istore_n 3, 1) := by decide +kernel
theorem d_Mc_combine_10 : decode b_Mc_combine 10 = .ok (.iload_n 1, 1) := by decide +kernel
theorem d_Mc_combine_11 : decode b_Mc_combine 11 = .ok (.bipush 13, 2) := by decide +kernel
theorem d_Mc_combine_13 : decode b_Mc_combine 13 = .ok (.if_icmp .lt 24, 3) := by decide +kernel
theorem d_Mc_combine_16 : decode b_Mc_combine 16 = .ok (.aload_n 0, 1) := by decide +kernel
theorem d_Mc_combine_17 : decode b_Mc_combine 17 = .ok (.iload_n 1, 1) := by decide +kernel
theorem d_Mc_combine_18 : decode b_Mc_combine 18 = .ok (.iload_n 3, 1) := by decide +kernel
theorem d_Mc_combine_19 : decode b_Mc_combine 19 = .ok (.iload_n 2, 1) := by decide +kernel
theorem d_Mc_combine_20 : decode b_Mc_combine 20 = .ok (.invokestatic 123, 3) := by decide +kernel
theorem d_Mc_combine_23 : decode b_Mc_combine 23 = .ok (.ifCond .eq 7, 3) := by decide +kernel
theorem d_Mc_combine_26 : decode b_Mc_combine 26 = .ok (.iconst 1, 1) := by decide +kernel
theorem d_Mc_combine_27 : decode b_Mc_combine 27 = .ok (.goto 4, 3) := by decide +kernel
theorem d_Mc_combine_30 : decode b_Mc_combine 30 = .ok (.iconst 0, 1) := by decide +kernel
theorem d_Mc_combine_31 : decode b_Mc_combine 31 = .ok (.invokevirtual 89, 3) := by decide +kernel
theorem d_Mc_combine_34 : decode b_Mc_combine 34 = .ok (.goto 13, 3) := by decide +kernel
theorem d_Mc_combine_37 : decode b_Mc_combine 37 = .ok (.aload_n 0, 1) := by decide +kernel
theorem d_Mc_combine_38 : decode b_Mc_combine 38 = .ok (.iload_n 1, 1) := by decide +kernel
theorem d_Mc_combine_39 : decode b_Mc_combine 39 = .ok (.iload_n 3, 1) := by decide +kernel
theorem d_Mc_combine_40 : decode b_Mc_combine 40 = .ok (.iload_n 2, 1) := by decide +kernel
theorem d_Mc_combine_41 : decode b_Mc_combine 41 = .ok (.invokestatic 127, 3) := by decide +kernel
theorem d_Mc_combine_44 : decode b_Mc_combine 44 = .ok (.invokevirtual 89, 3) := by decide +kernel
theorem d_Mc_combine_47 : decode b_Mc_combine 47 = .ok (.return_, 1) := by decide +kernel
theorem d_Mc_isTrue_0 : decode b_Mc_isTrue 0 = .ok (.iload_n 0, 1) := by decide +kernel
theorem d_Mc_isTrue_1 : decode b_Mc_isTrue 1 = .ok (.lookupswitch 49 #[(13, 27), (14, 38)], 27) := by decide +kernel
theorem d_Mc_isTrue_28 : decode b_Mc_isTrue 28 = .ok (.iload_n 1, 1) := by decide +kernel
theorem d_Mc_isTrue_29 : decode b_Mc_isTrue 29 = .ok (.iload_n 2, 1) := by decide +kernel
theorem d_Mc_isTrue_30 : decode b_Mc_isTrue 30 = .ok (.if_icmp .ne 7, 3) := by decide +kernel
theorem d_Mc_isTrue_33 : decode b_Mc_isTrue 33 = .ok (.iconst 1, 1) := by decide +kernel
theorem d_Mc_isTrue_34 : decode b_Mc_isTrue 34 = .ok (.goto 4, 3) := by decide +kernel
theorem d_Mc_isTrue_37 : decode b_Mc_isTrue 37 = .ok (.iconst 0, 1) := by decide +kernel
theorem d_Mc_isTrue_38 : decode b_Mc_isTrue 38 = .ok (.ireturn, 1) := by decide +kernel
theorem d_Mc_isTrue_39 : decode b_Mc_isTrue 39 = .ok (.iload_n 1, 1) := by decide +kernel
theorem d_Mc_isTrue_40 : decode b_Mc_isTrue 40 = .ok (.iload_n 2, 1) := by decide +kernel
theorem d_Mc_isTrue_41 : decode b_Mc_isTrue 41 = .ok (.if_icmp .ge 7, 3) := by decide +kernel
theorem d_Mc_isTrue_44 : decode b_Mc_isTrue 44 = .ok (.iconst 1, 1) := by decide +kernel
theorem d_Mc_isTrue_45 : decode b_Mc_isTrue 45 = .ok (.goto 4, 3) := by decide +kernel
theorem d_Mc_isTrue_48 : decode b_Mc_isTrue 48 = .ok (.iconst 0, 1) := by decide +kernel
theorem d_Mc_isTrue_49 : decode b_Mc_isTrue 49 = .ok (.ireturn, 1) := by decide +kernel
theorem d_Mc_isTrue_50 : decode b_Mc_isTrue 50 = .ok (.iload_n 1, 1) := by decide +kernel
theorem d_Mc_isTrue_51 : decode b_Mc_isTrue 51 = .ok (.iload_n 2, 1) := by decide +kernel
theorem d_Mc_isTrue_52 : decode b_Mc_isTrue 52 = .ok (.if_icmp .le 7, 3) := by decide +kernel
theorem d_Mc_isTrue_55 : decode b_Mc_isTrue 55 = .ok (.iconst 1, 1) := by decide +kernel
theorem d_Mc_isTrue_56 : decode b_Mc_isTrue 56 = .ok (.goto 4, 3) := by decide +kernel
theorem d_Mc_isTrue_59 : decode b_Mc_isTrue 59 = .ok (.iconst 0, 1) := by decide +kernel
theorem d_Mc_isTrue_60 : decode b_Mc_isTrue 60 = .ok (.ireturn, 1) := by decide +kernel
theorem d_Mc_calculate_0 : decode b_Mc_calculate 0 = .ok (.iload_n 0, 1) := by decide +kernel
theorem d_Mc_calculate_1 : decode b_Mc_calculate 1 = .ok (.tableswitch 39 8 10 #[27, 31, 35], 27) := by decide +kernel
theorem d_Mc_calculate_28 : decode b_Mc_calculate 28 = .ok (.iload_n 1, 1) := by decide +kernel
theorem d_Mc_calculate_29 : decode b_Mc_calculate 29 = .ok (.iload_n 2, 1) := by decide +kernel
theorem d_Mc_calculate_30 : decode b_Mc_calculate 30 = .ok (.iadd, 1) := by decide +kernel
theorem d_Mc_calculate_31 : decode b_Mc_calculate 31 = .ok (.ireturn, 1) := by decide +kernel
theorem d_Mc_calculate_32 : decode b_Mc_calculate 32 = .ok (.iload_n 1, 1) := by decide +kernel
theorem d_Mc_calculate_33 : decode b_Mc_calculate 33 = .ok (.iload_n 2, 1) := by decide +kernel
theorem d_Mc_calculate_34 : decode b_Mc_calculate 34 = .ok (.isub, 1) := by decide +kernel
theorem d_Mc_calculate_35 : decode b_Mc_calculate 35 = .ok (.ireturn, 1) := by decide +kernel
theorem d_Mc_calculate_36 : decode b_Mc_calculate 36 = .ok (.iload_n 1, 1) := by decide +kernel
theorem d_Mc_calculate_37 : decode b_Mc_calculate 37 = .ok (.iload_n 2, 1) := by decide +kernel
theorem d_Mc_calculate_38 : decode b_Mc_calculate 38 = .ok (.imul, 1) := by decide +kernel
theorem d_Mc_calculate_39 : decode b_Mc_calculate 39 = .ok (.ireturn, 1) := by decide +kernel
theorem d_Mc_calculate_40 : decode b_Mc_calculate 40 = .ok (.iload_n 0, 1) := by decide +kernel
theorem d_Mc_calculate_41 : decode b_Mc_calculate 41 = .ok (.bipush 11, 2) := by decide +kernel
theorem d_Mc_calculate_43 : decode b_Mc_calculate 43 = .ok (.if_icmp .ne 7, 3) := by decide +kernel
theorem d_Mc_calculate_46 : decode b_Mc_calculate 46 = .ok (.iconst 1, 1) := by decide +kernel
theorem d_Mc_calculate_47 : decode b_Mc_calculate 47 = .ok (.goto 4, 3) := by decide +kernel
theorem d_Mc_calculate_50 : decode b_Mc_calculate 50 = .ok (.iconst 0, 1) := by decide +kernel
theorem d_Mc_calculate_51 : decode b_Mc_calculate 51 = .ok (.iload_n 1, 1) := by decide +kernel
theorem d_Mc_calculate_52 : decode b_Mc_calculate 52 = .ok (.iload_n 2, 1) := by decide +kernel
theorem d_Mc_calculate_53 : decode b_Mc_calculate 53 = .ok (.invokestatic 131, 3) := by decide +kernel
theorem d_Mc_calculate_56 : decode b_Mc_calculate 56 = .ok (.ireturn, 1) := by decide +kernel
theorem d_Mc_divide_0 : decode b_Mc_divide 0 = .ok (.iload_n 2, 1) := by decide +kernel
theorem d_Mc_divide_1 : decode b_Mc_divide 1 = .ok (.ifCond .ne 11, 3) := by decide +kernel
theorem d_Mc_divide_4 : decode b_Mc_divide 4 = .ok (.new 135, 3) := by decide +kernel
theorem d_Mc_divide_7 : decode b_Mc_divide 7 = .ok (.dup, 1) := by decide +kernel
theorem d_Mc_divide_8 : decode b_Mc_divide 8 = .ok (.invokespecial 137, 3) := by decide +kernel
theorem d_Mc_divide_11 : decode b_Mc_divide 11 = .ok (.athrow, 1) := by decide +kernel
theorem d_Mc_divide_12 : decode b_Mc_divide 12 = .ok (.iload_n 0, 1) := by decide +kernel
theorem d_Mc_divide_13 : decode b_Mc_divide 13 = .ok (.ifCond .eq 9, 3) := by decide +kernel
theorem d_Mc_divide_16 : decode b_Mc_divide 16 = .ok (.iload_n 1, 1) := by decide +kernel
theorem d_Mc_divide_17 : decode b_Mc_divide 17 = .ok (.iload_n 2, 1) := by decide +kernel
theorem d_Mc_divide_18 : decode b_Mc_divide 18 = .ok (.idiv, 1) := by decide +kernel
theorem d_Mc_divide_19 : decode b_Mc_divide 19 = .ok (.goto 6, 3) := by decide +kernel
theorem d_Mc_divide_22 : decode b_Mc_divide 22 = .ok (.iload_n 1, 1) := by decide +kernel
theorem d_Mc_divide_23 : decode b_Mc_divide 23 = .ok (.iload_n 2, 1) := by decide +kernel
theorem d_Mc_divide_24 : decode b_Mc_divide 24 = .ok (.irem, 1) := by decide +kernel
theorem d_Mc_divide_25 : decode b_Mc_divide 25 = .ok (.ireturn, 1) := by decide +kernel
theorem d_Mc_enter_0 : decode b_Mc_enter 0 = .ok (.aload_n 0, 1) := by decide +kernel
theorem d_Mc_enter_1 : decode b_Mc_enter 1 = .ok (.getfield 35, 3) := by decide +kernel
theorem d_Mc_enter_4 : decode b_Mc_enter 4 = .ok (.bipush 10, 2) := by decide +kernel
theorem d_Mc_enter_6 : decode b_Mc_enter 6 = .ok (.if_icmp .ne 11, 3) := by decide +kernel
theorem d_Mc_enter_9 : decode b_Mc_enter 9 = .ok (.new 138, 3) := by decide +kernel
theorem d_Mc_enter_12 : decode b_Mc_enter 12 = .ok (.dup, 1) := by decide +kernel
theorem d_Mc_enter_13 : decode b_Mc_enter 13 = .ok (.invokespecial 140, 3) := by decide +kernel
theorem d_Mc_enter_16 : decode b_Mc_enter 16 = .ok (.athrow, 1) := by decide +kernel
theorem d_Mc_enter_17 : decode b_Mc_enter 17 = .ok (.aload_n 0, 1) := by decide +kernel
theorem d_Mc_enter_18 : decode b_Mc_enter 18 = .ok (.dup, 1) := by decide +kernel
theorem d_Mc_enter_19 : decode b_Mc_enter 19 = .ok (.getfield 35, 3) := by decide +kernel
theorem d_Mc_enter_22 : decode b_Mc_enter 22 = .ok (.iconst 1, 1) := by decide +kernel
theorem d_Mc_enter_23 : decode b_Mc_enter 23 = .ok (.iadd, 1) := by decide +kernel
theorem d_Mc_enter_24 : decode b_Mc_enter 24 = .ok (.putfield 35, 3) := by decide +kernel
theorem d_Mc_enter_27 : decode b_Mc_enter 27 = .ok (.aload_n 0, 1) := by decide +kernel
theorem d_Mc_enter_28 : decode b_Mc_enter 28 = .ok (.aload_n 0, 1) := by decide +kernel
theorem d_Mc_enter_29 : decode b_Mc_enter 29 = .ok (.getfield 53, 3) := by decide +kernel
theorem d_Mc_enter_32 : decode b_Mc_enter 32 = .ok (.aload_n 0, 1) := by decide +kernel
theorem d_Mc_enter_33 : decode b_Mc_enter 33 = .ok (.getfield 35, 3) := by decide +kernel
theorem d_Mc_enter_36 : decode b_Mc_enter 36 = .ok (.invokestatic 141, 3) := by decide +kernel
theorem d_Mc_enter_39 : decode b_Mc_enter 39 = .ok (.putfield 53, 3) := by decide +kernel
theorem d_Mc_enter_42 : decode b_Mc_enter 42 = .ok (.aload_n 0, 1) := by decide +kernel
theorem d_Mc_enter_43 : decode b_Mc_enter 43 = .ok (.getfield 22, 3) := by decide +kernel
theorem d_Mc_enter_46 : decode b_Mc_enter 46 = .ok (.aload_n 0, 1) := by decide +kernel
theorem d_Mc_enter_47 : decode b_Mc_enter 47 = .ok (.getfield 35, 3) := by decide +kernel
theorem d_Mc_enter_50 : decode b_Mc_enter 50 = .ok (.iload_n 1, 1) := by decide +kernel
theorem d_Mc_enter_51 : decode b_Mc_enter 51 = .ok (.iastore, 1) := by decide +kernel
theorem d_Mc_enter_52 : decode b_Mc_enter 52 = .ok (.aload_n 0, 1) := by decide +kernel
theorem d_Mc_enter_53 : decode b_Mc_enter 53 = .ok (.getfield 25, 3) := by decide +kernel
theorem d_Mc_enter_56 : decode b_Mc_enter 56 = .ok (.aload_n 0, 1) := by decide +kernel
theorem d_Mc_enter_57 : decode b_Mc_enter 57 = .ok (.getfield 35, 3) := by decide +kernel
theorem d_Mc_enter_60 : decode b_Mc_enter 60 = .ok (.aload_n 0, 1) := by decide +kernel
theorem d_Mc_enter_61 : decode b_Mc_enter 61 = .ok (.getfield 38, 3) := by decide +kernel
theorem d_Mc_enter_64 : decode b_Mc_enter 64 = .ok (.iastore, 1) := by decide +kernel
theorem d_Mc_enter_65 : decode b_Mc_enter 65 = .ok (.aload_n 0, 1) := by decide +kernel
theorem d_Mc_enter_66 : decode b_Mc_enter 66 = .ok (.invokevirtual 79, 3) := by decide +kernel
theorem d_Mc_enter_69 : decode b_Mc_enter 69 = .ok (.aload_n 0, 1) := by decide +kernel
theorem d_Mc_enter_70 : decode b_Mc_enter 70 = .ok (.getfield 14, 3) := by decide +kernel
theorem d_Mc_enter_73 : decode b_Mc_enter 73 = .ok (.getfield 146, 3) := by decide +kernel
theorem d_Mc_enter_76 : decode b_Mc_enter 76 = .ok (.iload_n 2, 1) := by decide +kernel
theorem d_Mc_enter_77 : decode b_Mc_enter 77 = .ok (.iaload, 1) := by decide +kernel
theorem d_Mc_enter_78 : decode b_Mc_enter 78 = .ok (.iconst 1, 1) := by decide +kernel
theorem d_Mc_enter_79 : decode b_Mc_enter 79 = .ok (.isub, 1) := by decide +kernel
theorem d_Mc_enter_80 : decode b_Mc_enter 80 = .ok (.istore_n 3, 1) := by decide +kernel
theorem d_Mc_enter_81 : decode b_Mc_enter 81 = .ok (.iload_n 3, 1) := by decide +kernel
theorem d_Mc_enter_82 : decode b_Mc_enter 82 = .ok (.ifCond .lt 26, 3) := by decide +kernel
theorem d_Mc_enter_85 : decode b_Mc_enter 85 = .ok (.aload_n 0, 1) := by decide +kernel
theorem d_Mc_enter_86 : decode b_Mc_enter 86 = .ok (.aload_n 0, 1) := by decide +kernel
theorem d_Mc_enter_87 : decode b_Mc_enter 87 = .ok (.getfield 35, 3) := by decide +kernel
theorem d_Mc_enter_90 : decode b_Mc_enter 90 = .ok (.bipush 12, 2) := by decide +kernel
theorem d_Mc_enter_92 : decode b_Mc_enter 92 = .ok (.imul, 1) := by decide +kernel
theorem d_Mc_enter_93 : decode b_Mc_enter 93 = .ok (.iload_n 3, 1) := by decide +kernel
theorem d_Mc_enter_94 : decode b_Mc_enter 94 = .ok (.iadd, 1) := by decide +kernel
theorem d_Mc_enter_95 : decode b_Mc_enter 95 = .ok (.aload_n 0, 1) := by decide +kernel
theorem d_Mc_enter_96 : decode b_Mc_enter 96 = .ok (.invokevirtual 101, 3) := by decide +kernel
theorem d_Mc_enter_99 : decode b_Mc_enter 99 = .ok (.invokevirtual 82, 3) := by decide +kernel
theorem d_Mc_enter_102 : decode b_Mc_enter 102 = .ok (.iinc 3 (-1), 3) := by decide +kernel
theorem d_Mc_enter_105 : decode b_Mc_enter 105 = .ok (.goto (-24), 3) := by decide +kernel
theorem d_Mc_enter_108 : decode b_Mc_enter 108 = .ok (.aload_n 0, 1) := by decide +kernel
theorem d_Mc_enter_109 : decode b_Mc_enter 109 = .ok (.aload_n 0, 1) := by decide +kernel
theorem d_Mc_enter_110 : decode b_Mc_enter 110 = .ok (.getfield 14, 3) := by decide +kernel
theorem d_Mc_enter_113 : decode b_Mc_enter 113 = .ok (.getfield 149, 3) := by decide +kernel
theorem d_Mc_enter_116 : decode b_Mc_enter 116 = .ok (.iload_n 2, 1) := by decide +kernel
theorem d_Mc_enter_117 : decode b_Mc_enter 117 = .ok (.iaload, 1) := by decide +kernel
theorem d_Mc_enter_118 : decode b_Mc_enter 118 = .ok (.putfield 38, 3) := by decide +kernel
theorem d_Mc_enter_121 : decode b_Mc_enter 121 = .ok (.return_, 1) := by decide +kernel
theorem d_Mc_leave_0 : decode b_Mc_leave 0 = .ok (.aload_n 0, 1) := by decide +kernel
theorem d_Mc_leave_1 : decode b_Mc_leave 1 = .ok (.getfield 35, 3) := by decide +kernel
theorem d_Mc_leave_4 : decode b_Mc_leave 4 = .ok (.ifCond .ne 17, 3) := by decide +kernel
theorem d_Mc_leave_7 : decode b_Mc_leave 7 = .ok (.aload_n 0, 1) := by decide +kernel
theorem d_Mc_leave_8 : decode b_Mc_leave 8 = .ok (.aload_n 0, 1) := by decide +kernel
theorem d_Mc_leave_9 : decode b_Mc_leave 9 = .ok (.getfield 14, 3) := by decide +kernel
theorem d_Mc_leave_12 : decode b_Mc_leave 12 = .ok (.getfield 60, 3) := by decide +kernel
theorem d_Mc_leave_15 : decode b_Mc_leave 15 = .ok (.putfield 38, 3) := by decide +kernel
theorem d_Mc_leave_18 : decode b_Mc_leave 18 = .ok (.goto 26, 3) := by decide +kernel
theorem d_Mc_leave_21 : decode b_Mc_leave 21 = .ok (.aload_n 0, 1) := by decide +kernel
theorem d_Mc_leave_22 : decode b_Mc_leave 22 = .ok (.aload_n 0, 1) := by decide +kernel
theorem d_Mc_leave_23 : decode b_Mc_leave 23 = .ok (.getfield 25, 3) := by decide +kernel
theorem d_Mc_leave_26 : decode b_Mc_leave 26 = .ok (.aload_n 0, 1) := by decide +kernel
theorem d_Mc_leave_27 : decode b_Mc_leave 27 = .ok (.getfield 35, 3) := by decide +kernel
theorem d_Mc_leave_30 : decode b_Mc_leave 30 = .ok (.iaload, 1) := by decide +kernel
theorem d_Mc_leave_31 : decode b_Mc_leave 31 = .ok (.putfield 38, 3) := by decide +kernel
theorem d_Mc_leave_34 : decode b_Mc_leave 34 = .ok (.aload_n 0, 1) := by decide +kernel
theorem d_Mc_leave_35 : decode b_Mc_leave 35 = .ok (.dup, 1) := by decide +kernel
theorem d_Mc_leave_36 : decode b_Mc_leave 36 = .ok (.getfield 35, 3) := by decide +kernel
theorem d_Mc_leave_39 : decode b_Mc_leave 39 = .ok (.iconst 1, 1) := by decide +kernel
theorem d_Mc_leave_40 : decode b_Mc_leave 40 = .ok (.isub, 1) := by decide +kernel
theorem d_Mc_leave_41 : decode b_Mc_leave 41 = .ok (.putfield 35, 3) := by decide +kernel
theorem d_Mc_leave_44 : decode b_Mc_leave 44 = .ok (.return_, 1) := by decide +kernel
theorem d_Mc_put_0 : decode b_Mc_put 0 = .ok (.aload_n 0, 1) := by decide +kernel
theorem d_Mc_put_1 : decode b_Mc_put 1 = .ok (.getfield 44, 3) := by decide +kernel
theorem d_Mc_put_4 : decode b_Mc_put 4 = .ok (.bipush 32, 2) := by decide +kernel
theorem d_Mc_put_6 : decode b_Mc_put 6 = .ok (.if_icmp .ge 26, 3) := by decide +kernel
theorem d_Mc_put_9 : decode b_Mc_put 9 = .ok (.aload_n 0, 1) := by decide +kernel
theorem d_Mc_put_10 : decode b_Mc_put 10 = .ok (.getfield 41, 3) := by decide +kernel
theorem d_Mc_put_13 : decode b_Mc_put 13 = .ok (.aload_n 0, 1) := by decide +kernel
theorem d_Mc_put_14 : decode b_Mc_put 14 = .ok (.getfield 44, 3) := by decide +kernel
theorem d_Mc_put_17 : decode b_Mc_put 17 = .ok (.iload_n 1, 1) := by decide +kernel
theorem d_Mc_put_18 : decode b_Mc_put 18 = .ok (.iastore, 1) := by decide +kernel
theorem d_Mc_put_19 : decode b_Mc_put 19 = .ok (.aload_n 0, 1) := by decide +kernel
theorem d_Mc_put_20 : decode b_Mc_put 20 = .ok (.dup, 1) := by decide +kernel
theorem d_Mc_put_21 : decode b_Mc_put 21 = .ok (.getfield 44, 3) := by decide +kernel
theorem d_Mc_put_24 : decode b_Mc_put 24 = .ok (.iconst 1, 1) := by decide +kernel
theorem d_Mc_put_25 : decode b_Mc_put 25 = .ok (.iadd, 1) := by decide +kernel
theorem d_Mc_put_26 : decode b_Mc_put 26 = .ok (.putfield 44, 3) := by decide +kernel
theorem d_Mc_put_29 : decode b_Mc_put 29 = .ok (.goto 13, 3) := by decide +kernel
theorem d_Mc_put_32 : decode b_Mc_put 32 = .ok (.aload_n 0, 1) := by decide +kernel
theorem d_Mc_put_33 : decode b_Mc_put 33 = .ok (.dup, 1) := by decide +kernel
theorem d_Mc_put_34 : decode b_Mc_put 34 = .ok (.getfield 47, 3) := by decide +kernel
theorem d_Mc_put_37 : decode b_Mc_put 37 = .ok (.iconst 1, 1) := by decide +kernel
theorem d_Mc_put_38 : decode b_Mc_put 38 = .ok (.iadd, 1) := by decide +kernel
theorem d_Mc_put_39 : decode b_Mc_put 39 = .ok (.putfield 47, 3) := by decide +kernel
theorem d_Mc_put_42 : decode b_Mc_put 42 = .ok (.return_, 1) := by decide +kernel
theorem d_Mc_frameOutward_0 : decode b_Mc_frameOutward 0 = .ok (.aload_n 0, 1) := by decide +kernel
theorem d_Mc_frameOutward_1 : decode b_Mc_frameOutward 1 = .ok (.getfield 35, 3) := by decide +kernel
theorem d_Mc_frameOutward_4 : decode b_Mc_frameOutward 4 = .ok (.istore_n 2, 1) := by decide +kernel
theorem d_Mc_frameOutward_5 : decode b_Mc_frameOutward 5 = .ok (.iconst 0, 1) := by decide +kernel
theorem d_Mc_frameOutward_6 : decode b_Mc_frameOutward 6 = .ok (.istore_n 3, 1) := by decide +kernel
theorem d_Mc_frameOutward_7 : decode b_Mc_frameOutward 7 = .ok (.iload_n 3, 1) := by decide +kernel
theorem d_Mc_frameOutward_8 : decode b_Mc_frameOutward 8 = .ok (.iload_n 1, 1) := by decide +kernel
theorem d_Mc_frameOutward_9 : decode b_Mc_frameOutward 9 = .ok (.if_icmp .ge 16, 3) := by decide +kernel
theorem d_Mc_frameOutward_12 : decode b_Mc_frameOutward 12 = .ok (.aload_n 0, 1) := by decide +kernel
theorem d_Mc_frameOutward_13 : decode b_Mc_frameOutward 13 = .ok (.getfield 22, 3) := by decide +kernel
theorem d_Mc_frameOutward_16 : decode b_Mc_frameOutward 16 = .ok (.iload_n 2, 1) := by decide +kernel
theorem d_Mc_frameOutward_17 : decode b_Mc_frameOutward 17 = .ok (.iaload, 1) := by decide +kernel
theorem d_Mc_frameOutward_18 : decode b_Mc_frameOutward 18 = .ok (.istore_n 2, 1) := by decide +kernel
theorem d_Mc_frameOutward_19 : decode b_Mc_frameOutward 19 = .ok (.iinc 3 1, 3) := by decide +kernel
theorem d_Mc_frameOutward_22 : decode b_Mc_frameOutward 22 = .ok (.goto (-15), 3) := by decide +kernel
theorem d_Mc_frameOutward_25 : decode b_Mc_frameOutward 25 = .ok (.iload_n 2, 1) := by decide +kernel
theorem d_Mc_frameOutward_26 : decode b_Mc_frameOutward 26 = .ok (.ireturn, 1) := by decide +kernel
theorem d_Mc_address_0 : decode b_Mc_address 0 = .ok (.aload_n 0, 1) := by decide +kernel
theorem d_Mc_address_1 : decode b_Mc_address 1 = .ok (.iload_n 1, 1) := by decide +kernel
theorem d_Mc_address_2 : decode b_Mc_address 2 = .ok (.invokevirtual 105, 3) := by decide +kernel
theorem d_Mc_address_5 : decode b_Mc_address 5 = .ok (.bipush 12, 2) := by decide +kernel
theorem d_Mc_address_7 : decode b_Mc_address 7 = .ok (.imul, 1) := by decide +kernel
theorem d_Mc_address_8 : decode b_Mc_address 8 = .ok (.iload_n 2, 1) := by decide +kernel
theorem d_Mc_address_9 : decode b_Mc_address 9 = .ok (.iadd, 1) := by decide +kernel
theorem d_Mc_address_10 : decode b_Mc_address 10 = .ok (.ireturn, 1) := by decide +kernel
theorem d_Mc_load_0 : decode b_Mc_load 0 = .ok (.iload_n 1, 1) := by decide +kernel
theorem d_Mc_load_1 : decode b_Mc_load 1 = .ok (.ifCond .lt 19, 3) := by decide +kernel
theorem d_Mc_load_4 : decode b_Mc_load 4 = .ok (.iload_n 1, 1) := by decide +kernel
theorem d_Mc_load_5 : decode b_Mc_load 5 = .ok (.sipush 132, 3) := by decide +kernel
theorem d_Mc_load_8 : decode b_Mc_load 8 = .ok (.if_icmp .ge 12, 3) := by decide +kernel
theorem d_Mc_load_11 : decode b_Mc_load 11 = .ok (.aload_n 0, 1) := by decide +kernel
theorem d_Mc_load_12 : decode b_Mc_load 12 = .ok (.getfield 18, 3) := by decide +kernel
theorem d_Mc_load_15 : decode b_Mc_load 15 = .ok (.iload_n 1, 1) := by decide +kernel
theorem d_Mc_load_16 : decode b_Mc_load 16 = .ok (.iaload, 1) := by decide +kernel
theorem d_Mc_load_17 : decode b_Mc_load 17 = .ok (.goto 4, 3) := by decide +kernel
theorem d_Mc_load_20 : decode b_Mc_load 20 = .ok (.iconst 0, 1) := by decide +kernel
theorem d_Mc_load_21 : decode b_Mc_load 21 = .ok (.ireturn, 1) := by decide +kernel
theorem d_Mc_store_0 : decode b_Mc_store 0 = .ok (.iload_n 1, 1) := by decide +kernel
theorem d_Mc_store_1 : decode b_Mc_store 1 = .ok (.ifCond .lt 17, 3) := by decide +kernel
theorem d_Mc_store_4 : decode b_Mc_store 4 = .ok (.iload_n 1, 1) := by decide +kernel
theorem d_Mc_store_5 : decode b_Mc_store 5 = .ok (.sipush 132, 3) := by decide +kernel
theorem d_Mc_store_8 : decode b_Mc_store 8 = .ok (.if_icmp .ge 10, 3) := by decide +kernel
theorem d_Mc_store_11 : decode b_Mc_store 11 = .ok (.aload_n 0, 1) := by decide +kernel
theorem d_Mc_store_12 : decode b_Mc_store 12 = .ok (.getfield 18, 3) := by decide +kernel
theorem d_Mc_store_15 : decode b_Mc_store 15 = .ok (.iload_n 1, 1) := by decide +kernel
theorem d_Mc_store_16 : decode b_Mc_store 16 = .ok (.iload_n 2, 1) := by decide +kernel
theorem d_Mc_store_17 : decode b_Mc_store 17 = .ok (.iastore, 1) := by decide +kernel
theorem d_Mc_store_18 : decode b_Mc_store 18 = .ok (.return_, 1) := by decide +kernel
theorem d_Mc_push_0 : decode b_Mc_push 0 = .ok (.aload_n 0, 1) := by decide +kernel
theorem d_Mc_push_1 : decode b_Mc_push 1 = .ok (.getfield 31, 3) := by decide +kernel
theorem d_Mc_push_4 : decode b_Mc_push 4 = .ok (.bipush 21, 2) := by decide +kernel
theorem d_Mc_push_6 : decode b_Mc_push 6 = .ok (.if_icmp .ge 23, 3) := by decide +kernel
theorem d_Mc_push_9 : decode b_Mc_push 9 = .ok (.aload_n 0, 1) := by decide +kernel
theorem d_Mc_push_10 : decode b_Mc_push 10 = .ok (.getfield 28, 3) := by decide +kernel
theorem d_Mc_push_13 : decode b_Mc_push 13 = .ok (.aload_n 0, 1) := by decide +kernel
theorem d_Mc_push_14 : decode b_Mc_push 14 = .ok (.getfield 31, 3) := by decide +kernel
theorem d_Mc_push_17 : decode b_Mc_push 17 = .ok (.iload_n 1, 1) := by decide +kernel
theorem d_Mc_push_18 : decode b_Mc_push 18 = .ok (.iastore, 1) := by decide +kernel
theorem d_Mc_push_19 : decode b_Mc_push 19 = .ok (.aload_n 0, 1) := by decide +kernel
theorem d_Mc_push_20 : decode b_Mc_push 20 = .ok (.dup, 1) := by decide +kernel
theorem d_Mc_push_21 : decode b_Mc_push 21 = .ok (.getfield 31, 3) := by decide +kernel
theorem d_Mc_push_24 : decode b_Mc_push 24 = .ok (.iconst 1, 1) := by decide +kernel
theorem d_Mc_push_25 : decode b_Mc_push 25 = .ok (.iadd, 1) := by decide +kernel
theorem d_Mc_push_26 : decode b_Mc_push 26 = .ok (.putfield 31, 3) := by decide +kernel
theorem d_Mc_push_29 : decode b_Mc_push 29 = .ok (.return_, 1) := by decide +kernel
theorem d_Mc_pop_0 : decode b_Mc_pop 0 = .ok (.aload_n 0, 1) := by decide +kernel
theorem d_Mc_pop_1 : decode b_Mc_pop 1 = .ok (.getfield 31, 3) := by decide +kernel
theorem d_Mc_pop_4 : decode b_Mc_pop 4 = .ok (.ifCond .ne 5, 3) := by decide +kernel
theorem d_Mc_pop_7 : decode b_Mc_pop 7 = .ok (.iconst 0, 1) := by decide +kernel
theorem d_Mc_pop_8 : decode b_Mc_pop 8 = .ok (.ireturn, 1) := by decide +kernel
theorem d_Mc_pop_9 : decode b_Mc_pop 9 = .ok (.aload_n 0, 1) := by decide +kernel
theorem d_Mc_pop_10 : decode b_Mc_pop 10 = .ok (.dup, 1) := by decide +kernel
theorem d_Mc_pop_11 : decode b_Mc_pop 11 = .ok (.getfield 31, 3) := by decide +kernel
theorem d_Mc_pop_14 : decode b_Mc_pop 14 = .ok (.iconst 1, 1) := by decide +kernel
theorem d_Mc_pop_15 : decode b_Mc_pop 15 = .ok (.isub, 1) := by decide +kernel
theorem d_Mc_pop_16 : decode b_Mc_pop 16 = .ok (.putfield 31, 3) := by decide +kernel
theorem d_Mc_pop_19 : decode b_Mc_pop 19 = .ok (.aload_n 0, 1) := by decide +kernel
theorem d_Mc_pop_20 : decode b_Mc_pop 20 = .ok (.getfield 28, 3) := by decide +kernel
theorem d_Mc_pop_23 : decode b_Mc_pop 23 = .ok (.aload_n 0, 1) := by decide +kernel
theorem d_Mc_pop_24 : decode b_Mc_pop 24 = .ok (.getfield 31, 3) := by decide +kernel
theorem d_Mc_pop_27 : decode b_Mc_pop 27 = .ok (.iaload, 1) := by decide +kernel
theorem d_Mc_pop_28 : decode b_Mc_pop 28 = .ok (.ireturn, 1) := by decide +kernel
end
section
theorem d_Mo_init_0 : decode b_Mo_init 0 = .ok (.aload_n 0, 1) := by decide +kernel
theorem d_Mo_init_1 : decode b_Mo_init 1 = .ok (.invokespecial 1, 3) := by decide +kernel
theorem d_Mo_init_4 : decode b_Mo_init 4 = .ok (.aload_n 0, 1) := by decide +kernel
theorem d_Mo_init_5 : decode b_Mo_init 5 = .ok (.sipush 300, 3) := by decide +kernel
theorem d_Mo_init_8 : decode b_Mo_init 8 = .ok (.newarray .int, 2) := by decide +kernel
theorem d_Mo_init_10 : decode b_Mo_init 10 = .ok (.putfield 7, 3) := by decide +kernel
theorem d_Mo_init_13 : decode b_Mo_init 13 = .ok (.aload_n 0, 1) := by decide +kernel
theorem d_Mo_init_14 : decode b_Mo_init 14 = .ok (.sipush 155, 3) := by decide +kernel
theorem d_Mo_init_17 : decode b_Mo_init 17 = .ok (.newarray .int, 2) := by decide +kernel
theorem d_Mo_init_19 : decode b_Mo_init 19 = .ok (.putfield 13, 3) := by decide +kernel
theorem d_Mo_init_22 : decode b_Mo_init 22 = .ok (.aload_n 0, 1) := by decide +kernel
theorem d_Mo_init_23 : decode b_Mo_init 23 = .ok (.sipush 155, 3) := by decide +kernel
theorem d_Mo_init_26 : decode b_Mo_init 26 = .ok (.newarray .long, 2) := by decide +kernel
theorem d_Mo_init_28 : decode b_Mo_init 28 = .ok (.putfield 16, 3) := by decide +kernel
theorem d_Mo_init_31 : decode b_Mo_init 31 = .ok (.aload_n 0, 1) := by decide +kernel
theorem d_Mo_init_32 : decode b_Mo_init 32 = .ok (.sipush 155, 3) := by decide +kernel
theorem d_Mo_init_35 : decode b_Mo_init 35 = .ok (.newarray .int, 2) := by decide +kernel
theorem d_Mo_init_37 : decode b_Mo_init 37 = .ok (.putfield 20, 3) := by decide +kernel
theorem d_Mo_init_40 : decode b_Mo_init 40 = .ok (.aload_n 0, 1) := by decide +kernel
theorem d_Mo_init_41 : decode b_Mo_init 41 = .ok (.sipush 155, 3) := by decide +kernel
theorem d_Mo_init_44 : decode b_Mo_init 44 = .ok (.newarray .int, 2) := by decide +kernel
theorem d_Mo_init_46 : decode b_Mo_init 46 = .ok (.putfield 23, 3) := by decide +kernel
theorem d_Mo_init_49 : decode b_Mo_init 49 = .ok (.aload_n 0, 1) := by decide +kernel
theorem d_Mo_init_50 : decode b_Mo_init 50 = .ok (.sipush 155, 3) := by decide +kernel
theorem d_Mo_init_53 : decode b_Mo_init 53 = .ok (.newarray .int, 2) := by decide +kernel
theorem d_Mo_init_55 : decode b_Mo_init 55 = .ok (.putfield 26, 3) := by decide +kernel
theorem d_Mo_init_58 : decode b_Mo_init 58 = .ok (.aload_n 0, 1) := by decide +kernel
theorem d_Mo_init_59 : decode b_Mo_init 59 = .ok (.sipush 155, 3) := by decide +kernel
theorem d_Mo_init_62 : decode b_Mo_init 62 = .ok (.newarray .int, 2) := by decide +kernel
theorem d_Mo_init_64 : decode b_Mo_init 64 = .ok (.putfield 29, 3) := by decide +kernel
theorem d_Mo_init_67 : decode b_Mo_init 67 = .ok (.aload_n 0, 1) := by decide +kernel
theorem d_Mo_init_68 : decode b_Mo_init 68 = .ok (.sipush 155, 3) := by decide +kernel
theorem d_Mo_init_71 : decode b_Mo_init 71 = .ok (.newarray .int, 2) := by decide +kernel
theorem d_Mo_init_73 : decode b_Mo_init 73 = .ok (.putfield 32, 3) := by decide +kernel
theorem d_Mo_init_76 : decode b_Mo_init 76 = .ok (.aload_n 0, 1) := by decide +kernel
theorem d_Mo_init_77 : decode b_Mo_init 77 = .ok (.sipush 155, 3) := by decide +kernel
theorem d_Mo_init_80 : decode b_Mo_init 80 = .ok (.newarray .int, 2) := by decide +kernel
theorem d_Mo_init_82 : decode b_Mo_init 82 = .ok (.putfield 35, 3) := by decide +kernel
theorem d_Mo_init_85 : decode b_Mo_init 85 = .ok (.aload_n 0, 1) := by decide +kernel
theorem d_Mo_init_86 : decode b_Mo_init 86 = .ok (.sipush 155, 3) := by decide +kernel
theorem d_Mo_init_89 : decode b_Mo_init 89 = .ok (.newarray .int, 2) := by decide +kernel
theorem d_Mo_init_91 : decode b_Mo_init 91 = .ok (.putfield 38, 3) := by decide +kernel
theorem d_Mo_init_94 : decode b_Mo_init 94 = .ok (.aload_n 0, 1) := by decide +kernel
theorem d_Mo_init_95 : decode b_Mo_init 95 = .ok (.sipush 155, 3) := by decide +kernel
theorem d_Mo_init_98 : decode b_Mo_init 98 = .ok (.newarray .int, 2) := by decide +kernel
theorem d_Mo_init_100 : decode b_Mo_init 100 = .ok (.putfield 41, 3) := by decide +kernel
theorem d_Mo_init_103 : decode b_Mo_init 103 = .ok (.aload_n 0, 1) := by decide +kernel
theorem d_Mo_init_104 : decode b_Mo_init 104 = .ok (.iconst (-1), 1) := by decide +kernel
theorem d_Mo_init_105 : decode b_Mo_init 105 = .ok (.putfield 44, 3) := by decide +kernel
theorem d_Mo_init_108 : decode b_Mo_init 108 = .ok (.aload_n 0, 1) := by decide +kernel
theorem d_Mo_init_109 : decode b_Mo_init 109 = .ok (.bipush 18, 2) := by decide +kernel
theorem d_Mo_init_111 : decode b_Mo_init 111 = .ok (.newarray .long, 2) := by decide +kernel
theorem d_Mo_init_113 : decode b_Mo_init 113 = .ok (.putfield 48, 3) := by decide +kernel
theorem d_Mo_init_116 : decode b_Mo_init 116 = .ok (.aload_n 0, 1) := by decide +kernel
theorem d_Mo_init_117 : decode b_Mo_init 117 = .ok (.bipush 18, 2) := by decide +kernel
theorem d_Mo_init_119 : decode b_Mo_init 119 = .ok (.newarray .int, 2) := by decide +kernel
theorem d_Mo_init_121 : decode b_Mo_init 121 = .ok (.putfield 51, 3) := by decide +kernel
theorem d_Mo_init_124 : decode b_Mo_init 124 = .ok (.aload_n 0, 1) := by decide +kernel
theorem d_Mo_init_125 : decode b_Mo_init 125 = .ok (.bipush 18, 2) := by decide +kernel
theorem d_Mo_init_127 : decode b_Mo_init 127 = .ok (.newarray .int, 2) := by decide +kernel
theorem d_Mo_init_129 : decode b_Mo_init 129 = .ok (.putfield 54, 3) := by decide +kernel
theorem d_Mo_init_132 : decode b_Mo_init 132 = .ok (.aload_n 0, 1) := by decide +kernel
theorem d_Mo_init_133 : decode b_Mo_init 133 = .ok (.bipush 18, 2) := by decide +kernel
theorem d_Mo_init_135 : decode b_Mo_init 135 = .ok (.newarray .int, 2) := by decide +kernel
theorem d_Mo_init_137 : decode b_Mo_init 137 = .ok (.putfield 57, 3) := by decide +kernel
theorem d_Mo_init_140 : decode b_Mo_init 140 = .ok (.aload_n 0, 1) := by decide +kernel
theorem d_Mo_init_141 : decode b_Mo_init 141 = .ok (.bipush 18, 2) := by decide +kernel
theorem d_Mo_init_143 : decode b_Mo_init 143 = .ok (.newarray .int, 2) := by decide +kernel
theorem d_Mo_init_145 : decode b_Mo_init 145 = .ok (.putfield 60, 3) := by decide +kernel
theorem d_Mo_init_148 : decode b_Mo_init 148 = .ok (.aload_n 0, 1) := by decide +kernel
theorem d_Mo_init_149 : decode b_Mo_init 149 = .ok (.bipush 8, 2) := by decide +kernel
theorem d_Mo_init_151 : decode b_Mo_init 151 = .ok (.newarray .int, 2) := by decide +kernel
theorem d_Mo_init_153 : decode b_Mo_init 153 = .ok (.putfield 63, 3) := by decide +kernel
theorem d_Mo_init_156 : decode b_Mo_init 156 = .ok (.aload_n 0, 1) := by decide +kernel
theorem d_Mo_init_157 : decode b_Mo_init 157 = .ok (.bipush 8, 2) := by decide +kernel
theorem d_Mo_init_159 : decode b_Mo_init 159 = .ok (.newarray .int, 2) := by decide +kernel
theorem d_Mo_init_161 : decode b_Mo_init 161 = .ok (.putfield 66, 3) := by decide +kernel
theorem d_Mo_init_164 : decode b_Mo_init 164 = .ok (.aload_n 0, 1) := by decide +kernel
theorem d_Mo_init_165 : decode b_Mo_init 165 = .ok (.bipush 18, 2) := by decide +kernel
theorem d_Mo_init_167 : decode b_Mo_init 167 = .ok (.newarray .int, 2) := by decide +kernel
theorem d_Mo_init_169 : decode b_Mo_init 169 = .ok (.putfield 69, 3) := by decide +kernel
theorem d_Mo_init_172 : decode b_Mo_init 172 = .ok (.aload_n 0, 1) := by decide +kernel
theorem d_Mo_init_173 : decode b_Mo_init 173 = .ok (.bipush 18, 2) := by decide +kernel
theorem d_Mo_init_175 : decode b_Mo_init 175 = .ok (.newarray .int, 2) := by decide +kernel
theorem d_Mo_init_177 : decode b_Mo_init 177 = .ok (.putfield 72, 3) := by decide +kernel
theorem d_Mo_init_180 : decode b_Mo_init 180 = .ok (.aload_n 0, 1) := by decide +kernel
theorem d_Mo_init_181 : decode b_Mo_init 181 = .ok (.bipush 18, 2) := by decide +kernel
theorem d_Mo_init_183 : decode b_Mo_init 183 = .ok (.newarray .int, 2) := by decide +kernel
theorem d_Mo_init_185 : decode b_Mo_init 185 = .ok (.putfield 75, 3) := by decide +kernel
theorem d_Mo_init_188 : decode b_Mo_init 188 = .ok (.aload_n 0, 1) := by decide +kernel
theorem d_Mo_init_189 : decode b_Mo_init 189 = .ok (.bipush 18, 2) := by decide +kernel
theorem d_Mo_init_191 : decode b_Mo_init 191 = .ok (.newarray .int, 2) := by decide +kernel
theorem d_Mo_init_193 : decode b_Mo_init 193 = .ok (.putfield 78, 3) := by decide +kernel
theorem d_Mo_init_196 : decode b_Mo_init 196 = .ok (.aload_n 0, 1) := by decide +kernel
theorem d_Mo_init_197 : decode b_Mo_init 197 = .ok (.bipush 8, 2) := by decide +kernel
theorem d_Mo_init_199 : decode b_Mo_init 199 = .ok (.newarray .int, 2) := by decide +kernel
theorem d_Mo_init_201 : decode b_Mo_init 201 = .ok (.putfield 81, 3) := by decide +kernel
theorem d_Mo_init_204 : decode b_Mo_init 204 = .ok (.aload_n 0, 1) := by decide +kernel
theorem d_Mo_init_205 : decode b_Mo_init 205 = .ok (.bipush 10, 2) := by decide +kernel
theorem d_Mo_init_207 : decode b_Mo_init 207 = .ok (.newarray .int, 2) := by decide +kernel
theorem d_Mo_init_209 : decode b_Mo_init 209 = .ok (.putfield 84, 3) := by decide +kernel
theorem d_Mo_init_212 : decode b_Mo_init 212 = .ok (.aload_n 0, 1) := by decide +kernel
theorem d_Mo_init_213 : decode b_Mo_init 213 = .ok (.bipush 10, 2) := by decide +kernel
theorem d_Mo_init_215 : decode b_Mo_init 215 = .ok (.newarray .int, 2) := by decide +kernel
theorem d_Mo_init_217 : decode b_Mo_init 217 = .ok (.putfield 87, 3) := by decide +kernel
theorem d_Mo_init_220 : decode b_Mo_init 220 = .ok (.aload_n 0, 1) := by decide +kernel
theorem d_Mo_init_221 : decode b_Mo_init 221 = .ok (.sipush 132, 3) := by decide +kernel
theorem d_Mo_init_224 : decode b_Mo_init 224 = .ok (.newarray .int, 2) := by decide +kernel
theorem d_Mo_init_226 : decode b_Mo_init 226 = .ok (.putfield 90, 3) := by decide +kernel
theorem d_Mo_init_229 : decode b_Mo_init 229 = .ok (.aload_n 0, 1) := by decide +kernel
theorem d_Mo_init_230 : decode b_Mo_init 230 = .ok (.sipush 132, 3) := by decide +kernel
theorem d_Mo_init_233 : decode b_Mo_init 233 = .ok (.newarray .int, 2) := by decide +kernel
theorem d_Mo_init_235 : decode b_Mo_init 235 = .ok (.putfield 93, 3) := by decide +kernel
theorem d_Mo_init_238 : decode b_Mo_init 238 = .ok (.aload_n 0, 1) := by decide +kernel
theorem d_Mo_init_239 : decode b_Mo_init 239 = .ok (.bipush 11, 2) := by decide +kernel
theorem d_Mo_init_241 : decode b_Mo_init 241 = .ok (.newarray .int, 2) := by decide +kernel
theorem d_Mo_init_243 : decode b_Mo_init 243 = .ok (.putfield 96, 3) := by decide +kernel
theorem d_Mo_init_246 : decode b_Mo_init 246 = .ok (.aload_n 0, 1) := by decide +kernel
theorem d_Mo_init_247 : decode b_Mo_init 247 = .ok (.bipush 11, 2) := by decide +kernel
theorem d_Mo_init_249 : decode b_Mo_init 249 = .ok (.newarray .int, 2) := by decide +kernel
theorem d_Mo_init_251 : decode b_Mo_init 251 = .ok (.putfield 99, 3) := by decide +kernel
theorem d_Mo_init_254 : decode b_Mo_init 254 = .ok (.aload_n 0, 1) := by decide +kernel
theorem d_Mo_init_255 : decode b_Mo_init 255 = .ok (.bipush 11, 2) := by decide +kernel
theorem d_Mo_init_257 : decode b_Mo_init 257 = .ok (.newarray .int, 2) := by decide +kernel
theorem d_Mo_init_259 : decode b_Mo_init 259 = .ok (.putfield 102, 3) := by decide +kernel
theorem d_Mo_init_262 : decode b_Mo_init 262 = .ok (.aload_n 0, 1) := by decide +kernel
theorem d_Mo_init_263 : decode b_Mo_init 263 = .ok (.bipush 11, 2) := by decide +kernel
theorem d_Mo_init_265 : decode b_Mo_init 265 = .ok (.newarray .int, 2) := by decide +kernel
theorem d_Mo_init_267 : decode b_Mo_init 267 = .ok (.putfield 105, 3) := by decide +kernel
theorem d_Mo_init_270 : decode b_Mo_init 270 = .ok (.aload_n 0, 1) := by decide +kernel
theorem d_Mo_init_271 : decode b_Mo_init 271 = .ok (.bipush 110, 2) := by decide +kernel
theorem d_Mo_init_273 : decode b_Mo_init 273 = .ok (.newarray .int, 2) := by decide +kernel
theorem d_Mo_init_275 : decode b_Mo_init 275 = .ok (.putfield 108, 3) := by decide +kernel
theorem d_Mo_init_278 : decode b_Mo_init 278 = .ok (.aload_n 0, 1) := by decide +kernel
theorem d_Mo_init_279 : decode b_Mo_init 279 = .ok (.bipush 110, 2) := by decide +kernel
theorem d_Mo_init_281 : decode b_Mo_init 281 = .ok (.newarray .int, 2) := by decide +kernel
theorem d_Mo_init_283 : decode b_Mo_init 283 = .ok (.putfield 111, 3) := by decide +kernel
theorem d_Mo_init_286 : decode b_Mo_init 286 = .ok (.aload_n 0, 1) := by decide +kernel
theorem d_Mo_init_287 : decode b_Mo_init 287 = .ok (.bipush 32, 2) := by decide +kernel
theorem d_Mo_init_289 : decode b_Mo_init 289 = .ok (.newarray .int, 2) := by decide +kernel
theorem d_Mo_init_291 : decode b_Mo_init 291 = .ok (.putfield 114, 3) := by decide +kernel
theorem d_Mo_init_294 : decode b_Mo_init 294 = .ok (.aload_n 0, 1) := by decide +kernel
theorem d_Mo_init_295 : decode b_Mo_init 295 = .ok (.bipush 10, 2) := by decide +kernel
theorem d_Mo_init_297 : decode b_Mo_init 297 = .ok (.newarray .int, 2) := by decide +kernel
theorem d_Mo_init_299 : decode b_Mo_init 299 = .ok (.putfield 117, 3) := by decide +kernel
theorem d_Mo_init_302 : decode b_Mo_init 302 = .ok (.aload_n 0, 1) := by decide +kernel
theorem d_Mo_init_303 : decode b_Mo_init 303 = .ok (.bipush 10, 2) := by decide +kernel
theorem d_Mo_init_305 : decode b_Mo_init 305 = .ok (.newarray .int, 2) := by decide +kernel
theorem d_Mo_init_307 : decode b_Mo_init 307 = .ok (.putfield 120, 3) := by decide +kernel
theorem d_Mo_init_310 : decode b_Mo_init 310 = .ok (.aload_n 0, 1) := by decide +kernel
theorem d_Mo_init_311 : decode b_Mo_init 311 = .ok (.bipush 10, 2) := by decide +kernel
theorem d_Mo_init_313 : decode b_Mo_init 313 = .ok (.newarray .int, 2) := by decide +kernel
theorem d_Mo_init_315 : decode b_Mo_init 315 = .ok (.putfield 123, 3) := by decide +kernel
theorem d_Mo_init_318 : decode b_Mo_init 318 = .ok (.aload_n 0, 1) := by decide +kernel
theorem d_Mo_init_319 : decode b_Mo_init 319 = .ok (.bipush 10, 2) := by decide +kernel
theorem d_Mo_init_321 : decode b_Mo_init 321 = .ok (.newarray .int, 2) := by decide +kernel
theorem d_Mo_init_323 : decode b_Mo_init 323 = .ok (.putfield 126, 3) := by decide +kernel
theorem d_Mo_init_326 : decode b_Mo_init 326 = .ok (.aload_n 0, 1) := by decide +kernel
theorem d_Mo_init_327 : decode b_Mo_init 327 = .ok (.iconst 3, 1) := by decide +kernel
theorem d_Mo_init_328 : decode b_Mo_init 328 = .ok (.newarray .int, 2) := by decide +kernel
theorem d_Mo_init_330 : decode b_Mo_init 330 = .ok (.putfield 129, 3) := by decide +kernel
theorem d_Mo_init_333 : decode b_Mo_init 333 = .ok (.return_, 1) := by decide +kernel
theorem d_Mo_thrown_0 : decode b_Mo_thrown 0 = .ok (.aload_n 0, 1) := by decide +kernel
theorem d_Mo_thrown_1 : decode b_Mo_thrown 1 = .ok (.getfield 132, 3) := by decide +kernel
theorem d_Mo_thrown_4 : decode b_Mo_thrown 4 = .ok (.ireturn, 1) := by decide +kernel
theorem d_Mo_raise_0 : decode b_Mo_raise 0 = .ok (.aload_n 0, 1) := by decide +kernel
theorem d_Mo_raise_1 : decode b_Mo_raise 1 = .ok (.iload_n 1, 1) := by decide +kernel
theorem d_Mo_raise_2 : decode b_Mo_raise 2 = .ok (.putfield 132, 3) := by decide +kernel
theorem d_Mo_raise_5 : decode b_Mo_raise 5 = .ok (.iconst 0, 1) := by decide +kernel
theorem d_Mo_raise_6 : decode b_Mo_raise 6 = .ok (.ireturn, 1) := by decide +kernel
theorem d_Mo_append_0 : decode b_Mo_append 0 = .ok (.aload_n 0, 1) := by decide +kernel
theorem d_Mo_append_1 : decode b_Mo_append 1 = .ok (.iconst 0, 1) := by decide +kernel
theorem d_Mo_append_2 : decode b_Mo_append 2 = .ok (.putfield 132, 3) := by decide +kernel
theorem d_Mo_append_5 : decode b_Mo_append 5 = .ok (.iload_n 3, 1) := by decide +kernel
theorem d_Mo_append_6 : decode b_Mo_append 6 = .ok (.iconst 1, 1) := by decide +kernel
theorem d_Mo_append_7 : decode b_Mo_append 7 = .ok (.if_icmp .lt 9, 3) := by decide +kernel
theorem d_Mo_append_10 : decode b_Mo_append 10 = .ok (.iload_n 3, 1) := by decide +kernel
theorem d_Mo_append_11 : decode b_Mo_append 11 = .ok (.bipush 8, 2) := by decide +kernel
theorem d_Mo_append_13 : decode b_Mo_append 13 = .ok (.if_icmp .le 9, 3) := by decide +kernel
theorem d_Mo_append_16 : decode b_Mo_append 16 = .ok (.aload_n 0, 1) := by decide +kernel
theorem d_Mo_append_17 : decode b_Mo_append 17 = .ok (.iconst 1, 1) := by decide +kernel
theorem d_Mo_append_18 : decode b_Mo_append 18 = .ok (.invokevirtual 135, 3) := by decide +kernel
theorem d_Mo_append_21 : decode b_Mo_append 21 = .ok (.ireturn, 1) := by decide +kernel
theorem d_Mo_append_22 : decode b_Mo_append 22 = .ok (.iconst 0, 1) := by decide +kernel
theorem d_Mo_append_23 : decode b_Mo_append 23 = .ok (.istore 4, 2) := by decide +kernel
theorem d_Mo_append_25 : decode b_Mo_append 25 = .ok (.iload 4, 2) := by decide +kernel
theorem d_Mo_append_27 : decode b_Mo_append 27 = .ok (.iload_n 3, 1) := by decide +kernel
theorem d_Mo_append_28 : decode b_Mo_append 28 = .ok (.if_icmp .ge 43, 3) := by decide +kernel
theorem d_Mo_append_31 : decode b_Mo_append 31 = .ok (.lload_n 1, 1) := by decide +kernel
theorem d_Mo_append_32 : decode b_Mo_append 32 = .ok (.bipush 8, 2) := by decide +kernel
theorem d_Mo_append_34 : decode b_Mo_append 34 = .ok (.iload 4, 2) := by decide +kernel
theorem d_Mo_append_36 : decode b_Mo_append 36 = .ok (.imul, 1) := by decide +kernel
theorem d_Mo_append_37 : decode b_Mo_append 37 = .ok (.lshr, 1) := by decide +kernel
theorem d_Mo_append_38 : decode b_Mo_append 38 = .ok (.l2i, 1) := by decide +kernel
theorem d_Mo_append_39 : decode b_Mo_append 39 = .ok (.sipush 255, 3) := by decide +kernel
theorem d_Mo_append_42 : decode b_Mo_append 42 = .ok (.iand, 1) := by decide +kernel
theorem d_Mo_append_43 : decode b_Mo_append 43 = .ok (.istore 5, 2) := by decide +kernel
theorem d_Mo_append_45 : decode b_Mo_append 45 = .ok (.iload 5, 2) := by decide +kernel
theorem d_Mo_append_47 : decode b_Mo_append 47 = .ok (.bipush 32, 2) := by decide +kernel
theorem d_Mo_append_49 : decode b_Mo_append 49 = .ok (.if_icmp .lt 10, 3) := by decide +kernel
theorem d_Mo_append_52 : decode b_Mo_append 52 = .ok (.iload 5, 2) := by decide +kernel
theorem d_Mo_append_54 : decode b_Mo_append 54 = .ok (.bipush 126, 2) := by decide +kernel
theorem d_Mo_append_56 : decode b_Mo_append 56 = .ok (.if_icmp .le 9, 3) := by decide +kernel
theorem d_Mo_append_59 : decode b_Mo_append 59 = .ok (.aload_n 0, 1) := by decide +kernel
theorem d_Mo_append_60 : decode b_Mo_append 60 = .ok (.iconst 1, 1) := by decide +kernel
theorem d_Mo_append_61 : decode b_Mo_append 61 = .ok (.invokevirtual 135, 3) := by decide +kernel
theorem d_Mo_append_64 : decode b_Mo_append 64 = .ok (.ireturn, 1) := by decide +kernel
theorem d_Mo_append_65 : decode b_Mo_append 65 = .ok (.iinc 4 1, 3) := by decide +kernel
theorem d_Mo_append_68 : decode b_Mo_append 68 = .ok (.goto (-43), 3) := by decide +kernel
theorem d_Mo_append_71 : decode b_Mo_append 71 = .ok (.aload_n 0, 1) := by decide +kernel
theorem d_Mo_append_72 : decode b_Mo_append 72 = .ok (.getfield 139, 3) := by decide +kernel
theorem d_Mo_append_75 : decode b_Mo_append 75 = .ok (.iload_n 3, 1) := by decide +kernel
theorem d_Mo_append_76 : decode b_Mo_append 76 = .ok (.iadd, 1) := by decide +kernel
theorem d_Mo_append_77 : decode b_Mo_append 77 = .ok (.sipush 300, 3) := by decide +kernel
theorem d_Mo_append_80 : decode b_Mo_append 80 = .ok (.if_icmp .le 9, 3) := by decide +kernel
theorem d_Mo_append_83 : decode b_Mo_append 83 = .ok (.aload_n 0, 1) := by decide +kernel
theorem d_Mo_append_84 : decode b_Mo_append 84 = .ok (.iconst 2, 1) := by decide +kernel
theorem d_Mo_append_85 : decode b_Mo_append 85 = .ok (.invokevirtual 135, 3) := by decide +kernel
theorem d_Mo_append_88 : decode b_Mo_append 88 = .ok (.ireturn, 1) := by decide +kernel
theorem d_Mo_append_89 : decode b_Mo_append 89 = .ok (.iload_n 3, 1) := by decide +kernel
theorem d_Mo_append_90 : decode b_Mo_append 90 = .ok (.iconst 1, 1) := by decide +kernel
theorem d_Mo_append_91 : decode b_Mo_append 91 = .ok (.isub, 1) := by decide +kernel
theorem d_Mo_append_92 : decode b_Mo_append 92 = .ok (.istore 4, 2) := by decide +kernel
theorem d_Mo_append_94 : decode b_Mo_append 94 = .ok (.iload 4, 2) := by decide +kernel
theorem d_Mo_append_96 : decode b_Mo_append 96 = .ok (.ifCond .lt 40, 3) := by decide +kernel
theorem d_Mo_append_99 : decode b_Mo_append 99 = .ok (.aload_n 0, 1) := by decide +kernel
theorem d_Mo_append_100 : decode b_Mo_append 100 = .ok (.getfield 7, 3) := by decide +kernel
theorem d_Mo_append_103 : decode b_Mo_append 103 = .ok (.aload_n 0, 1) := by decide +kernel
theorem d_Mo_append_104 : decode b_Mo_append 104 = .ok (.getfield 139, 3) := by decide +kernel
theorem d_Mo_append_107 : decode b_Mo_append 107 = .ok (.lload_n 1, 1) := by decide +kernel
theorem d_Mo_append_108 : decode b_Mo_append 108 = .ok (.bipush 8, 2) := by decide +kernel
theorem d_Mo_append_110 : decode b_Mo_append 110 = .ok (.iload 4, 2) := by decide +kernel
theorem d_Mo_append_112 : decode b_Mo_append 112 = .ok (.imul, 1) := by decide +kernel
theorem d_Mo_append_113 : decode b_Mo_append 113 = .ok (.lshr, 1) := by decide +kernel
theorem d_Mo_append_114 : decode b_Mo_append 114 = .ok (.l2i, 1) := by decide +kernel
theorem d_Mo_append_115 : decode b_Mo_append 115 = .ok (.sipush 255, 3) := by decide +kernel
theorem d_Mo_append_118 : decode b_Mo_append 118 = .ok (.iand, 1) := by decide +kernel
theorem d_Mo_append_119 : decode b_Mo_append 119 = .ok (.iastore, 1) := by decide +kernel
theorem d_Mo_append_120 : decode b_Mo_append 120 = .ok (.aload_n 0, 1) := by decide +kernel
theorem d_Mo_append_121 : decode b_Mo_append 121 = .ok (.dup, 1) := by decide +kernel
theorem d_Mo_append_122 : decode b_Mo_append 122 = .ok (.getfield 139, 3) := by decide +kernel
theorem d_Mo_append_125 : decode b_Mo_append 125 = .ok (.iconst 1, 1) := by decide +kernel
theorem d_Mo_append_126 : decode b_Mo_append 126 = .ok (.iadd, 1) := by decide +kernel
theorem d_Mo_append_127 : decode b_Mo_append 127 = .ok (.putfield 139, 3) := by decide +kernel
theorem d_Mo_append_130 : decode b_Mo_append 130 = .ok (.iinc 4 (-1), 3) := by decide +kernel
theorem d_Mo_append_133 : decode b_Mo_append 133 = .ok (.goto (-39), 3) := by decide +kernel
theorem d_Mo_append_136 : decode b_Mo_append 136 = .ok (.aload_n 0, 1) := by decide +kernel
theorem d_Mo_append_137 : decode b_Mo_append 137 = .ok (.getfield 139, 3) := by decide +kernel
theorem d_Mo_append_140 : decode b_Mo_append 140 = .ok (.ireturn, 1) := by decide +kernel
theorem d_Mo_cut_0 : decode b_Mo_cut 0 = .ok (.aload_n 0, 1) := by decide +kernel
theorem d_Mo_cut_1 : decode b_Mo_cut 1 = .ok (.iconst 0, 1) := by decide +kernel
theorem d_Mo_cut_2 : decode b_Mo_cut 2 = .ok (.putfield 132, 3) := by decide +kernel
theorem d_Mo_cut_5 : decode b_Mo_cut 5 = .ok (.iload_n 1, 1) := by decide +kernel
theorem d_Mo_cut_6 : decode b_Mo_cut 6 = .ok (.ifCond .lt 11, 3) := by decide +kernel
theorem d_Mo_cut_9 : decode b_Mo_cut 9 = .ok (.iload_n 1, 1) := by decide +kernel
theorem d_Mo_cut_10 : decode b_Mo_cut 10 = .ok (.aload_n 0, 1) := by decide +kernel
theorem d_Mo_cut_11 : decode b_Mo_cut 11 = .ok (.getfield 139, 3) := by decide +kernel
theorem d_Mo_cut_14 : decode b_Mo_cut 14 = .ok (.if_icmp .le 9, 3) := by decide +kernel
theorem d_Mo_cut_17 : decode b_Mo_cut 17 = .ok (.aload_n 0, 1) := by decide +kernel
theorem d_Mo_cut_18 : decode b_Mo_cut 18 = .ok (.iconst 1, 1) := by decide +kernel
theorem d_Mo_cut_19 : decode b_Mo_cut 19 = .ok (.invokevirtual 135, 3) := by decide +kernel
theorem d_Mo_cut_22 : decode b_Mo_cut 22 = .ok (.ireturn, 1) := by decide +kernel
theorem d_Mo_cut_23 : decode b_Mo_cut 23 = .ok (.aload_n 0, 1) := by decide +kernel
theorem d_Mo_cut_24 : decode b_Mo_cut 24 = .ok (.dup, 1) := by decide +kernel
theorem d_Mo_cut_25 : decode b_Mo_cut 25 = .ok (.getfield 139, 3) := by decide +kernel
theorem d_Mo_cut_28 : decode b_Mo_cut 28 = .ok (.iload_n 1, 1) := by decide +kernel
theorem d_Mo_cut_29 : decode b_Mo_cut 29 = .ok (.isub, 1) := by decide +kernel
theorem d_Mo_cut_30 : decode b_Mo_cut 30 = .ok (.putfield 139, 3) := by decide +kernel
theorem d_Mo_cut_33 : decode b_Mo_cut 33 = .ok (.aload_n 0, 1) := by decide +kernel
theorem d_Mo_cut_34 : decode b_Mo_cut 34 = .ok (.getfield 139, 3) := by decide +kernel
theorem d_Mo_cut_37 : decode b_Mo_cut 37 = .ok (.ireturn, 1) := by decide +kernel
theorem d_Mo_letter_0 : decode b_Mo_letter 0 = .ok (.iload_n 0, 1) := by decide +kernel
theorem d_Mo_letter_1 : decode b_Mo_letter 1 = .ok (.bipush 97, 2) := by decide +kernel
theorem d_Mo_letter_3 : decode b_Mo_letter 3 = .ok (.if_icmp .lt 13, 3) := by decide +kernel
theorem d_Mo_letter_6 : decode b_Mo_letter 6 = .ok (.iload_n 0, 1) := by decide +kernel
theorem d_Mo_letter_7 : decode b_Mo_letter 7 = .ok (.bipush 122, 2) := by decide +kernel
theorem d_Mo_letter_9 : decode b_Mo_letter 9 = .ok (.if_icmp .gt 7, 3) := by decide +kernel
theorem d_Mo_letter_12 : decode b_Mo_letter 12 = .ok (.iconst 1, 1) := by decide +kernel
theorem d_Mo_letter_13 : decode b_Mo_letter 13 = .ok (.goto 4, 3) := by decide +kernel
theorem d_Mo_letter_16 : decode b_Mo_letter 16 = .ok (.iconst 0, 1) := by decide +kernel
theorem d_Mo_letter_17 : decode b_Mo_letter 17 = .ok (.ireturn, 1) := by decide +kernel
theorem d_Mo_digit_0 : decode b_Mo_digit 0 = .ok (.iload_n 0, 1) := by decide +kernel
theorem d_Mo_digit_1 : decode b_Mo_digit 1 = .ok (.bipush 48, 2) := by decide +kernel
theorem d_Mo_digit_3 : decode b_Mo_digit 3 = .ok (.if_icmp .lt 13, 3) := by decide +kernel
theorem d_Mo_digit_6 : decode b_Mo_digit 6 = .ok (.iload_n 0, 1) := by decide +kernel
theorem d_Mo_digit_7 : decode b_Mo_digit 7 = .ok (.bipush 57, 2) := by decide +kernel
theorem d_Mo_digit_9 : decode b_Mo_digit 9 = .ok (.if_icmp .gt 7, 3) := by decide +kernel
theorem d_Mo_digit_12 : decode b_Mo_digit 12 = .ok (.iconst 1, 1) := by decide +kernel
theorem d_Mo_digit_13 : decode b_Mo_digit 13 = .ok (.goto 4, 3) := by decide +kernel
theorem d_Mo_digit_16 : decode b_Mo_digit 16 = .ok (.iconst 0, 1) := by decide +kernel
theorem d_Mo_digit_17 : decode b_Mo_digit 17 = .ok (.ireturn, 1) := by decide +kernel
theorem d_Mo_wordKind_0 : decode b_Mo_wordKind 0 = .ok (.lload_n 0, 1) := by decide +kernel
theorem d_Mo_wordKind_1 : decode b_Mo_wordKind 1 = .ok (.ldc2_w 142, 3) := by decide +kernel
theorem d_Mo_wordKind_4 : decode b_Mo_wordKind 4 = .ok (.lcmp, 1) := by decide +kernel
theorem d_Mo_wordKind_5 : decode b_Mo_wordKind 5 = .ok (.ifCond .ne 5, 3) := by decide +kernel
theorem d_Mo_wordKind_8 : decode b_Mo_wordKind 8 = .ok (.iconst 3, 1) := by decide +kernel
theorem d_Mo_wordKind_9 : decode b_Mo_wordKind 9 = .ok (.ireturn, 1) := by decide +kernel
theorem d_Mo_wordKind_10 : decode b_Mo_wordKind 10 = .ok (.lload_n 0, 1) := by decide +kernel
theorem d_Mo_wordKind_11 : decode b_Mo_wordKind 11 = .ok (.ldc2_w 144, 3) := by decide +kernel
theorem d_Mo_wordKind_14 : decode b_Mo_wordKind 14 = .ok (.lcmp, 1) := by decide +kernel
theorem d_Mo_wordKind_15 : decode b_Mo_wordKind 15 = .ok (.ifCond .ne 5, 3) := by decide +kernel
theorem d_Mo_wordKind_18 : decode b_Mo_wordKind 18 = .ok (.iconst 4, 1) := by decide +kernel
theorem d_Mo_wordKind_19 : decode b_Mo_wordKind 19 = .ok (.ireturn, 1) := by decide +kernel
theorem d_Mo_wordKind_20 : decode b_Mo_wordKind 20 = .ok (.lload_n 0, 1) := by decide +kernel
theorem d_Mo_wordKind_21 : decode b_Mo_wordKind 21 = .ok (.ldc2_w 146, 3) := by decide +kernel
theorem d_Mo_wordKind_24 : decode b_Mo_wordKind 24 = .ok (.lcmp, 1) := by decide +kernel
theorem d_Mo_wordKind_25 : decode b_Mo_wordKind 25 = .ok (.ifCond .ne 5, 3) := by decide +kernel
theorem d_Mo_wordKind_28 : decode b_Mo_wordKind 28 = .ok (.iconst 5, 1) := by decide +kernel
theorem d_Mo_wordKind_29 : decode b_Mo_wordKind 29 = .ok (.ireturn, 1) := by decide +kernel
theorem d_Mo_wordKind_30 : decode b_Mo_wordKind 30 = .ok (.lload_n 0, 1) := by decide +kernel
theorem d_Mo_wordKind_31 : decode b_Mo_wordKind 31 = .ok (.ldc2_w 148, 3) := by decide +kernel
theorem d_Mo_wordKind_34 : decode b_Mo_wordKind 34 = .ok (.lcmp, 1) := by decide +kernel
theorem d_Mo_wordKind_35 : decode b_Mo_wordKind 35 = .ok (.ifCond .ne 6, 3) := by decide +kernel
theorem d_Mo_wordKind_38 : decode b_Mo_wordKind 38 = .ok (.bipush 6, 2) := by decide +kernel
theorem d_Mo_wordKind_40 : decode b_Mo_wordKind 40 = .ok (.ireturn, 1) := by decide +kernel
theorem d_Mo_wordKind_41 : decode b_Mo_wordKind 41 = .ok (.lload_n 0, 1) := by decide +kernel
theorem d_Mo_wordKind_42 : decode b_Mo_wordKind 42 = .ok (.ldc2_w 150, 3) := by decide +kernel
theorem d_Mo_wordKind_45 : decode b_Mo_wordKind 45 = .ok (.lcmp, 1) := by decide +kernel
theorem d_Mo_wordKind_46 : decode b_Mo_wordKind 46 = .ok (.ifCond .ne 6, 3) := by decide +kernel
theorem d_Mo_wordKind_49 : decode b_Mo_wordKind 49 = .ok (.bipush 7, 2) := by decide +kernel
theorem d_Mo_wordKind_51 : decode b_Mo_wordKind 51 = .ok (.ireturn, 1) := by decide +kernel
theorem d_Mo_wordKind_52 : decode b_Mo_wordKind 52 = .ok (.lload_n 0, 1) := by decide +kernel
theorem d_Mo_wordKind_53 : decode b_Mo_wordKind 53 = .ok (.ldc2_w 152, 3) := by decide +kernel
theorem d_Mo_wordKind_56 : decode b_Mo_wordKind 56 = .ok (.lcmp, 1) := by decide +kernel
theorem d_Mo_wordKind_57 : decode b_Mo_wordKind 57 = .ok (.ifCond .ne 6, 3) := by decide +kernel
theorem d_Mo_wordKind_60 : decode b_Mo_wordKind 60 = .ok (.bipush 8, 2) := by decide +kernel
theorem d_Mo_wordKind_62 : decode b_Mo_wordKind 62 = .ok (.ireturn, 1) := by decide +kernel
theorem d_Mo_wordKind_63 : decode b_Mo_wordKind 63 = .ok (.lload_n 0, 1) := by decide +kernel
theorem d_Mo_wordKind_64 : decode b_Mo_wordKind 64 = .ok (.ldc2_w 154, 3) := by decide +kernel
theorem d_Mo_wordKind_67 : decode b_Mo_wordKind 67 = .ok (.lcmp, 1) := by decide +kernel
theorem d_Mo_wordKind_68 : decode b_Mo_wordKind 68 = .ok (.ifCond .ne 6, 3) := by decide +kernel
theorem d_Mo_wordKind_71 : decode b_Mo_wordKind 71 = .ok (.bipush 9, 2) := by decide +kernel
theorem d_Mo_wordKind_73 : decode b_Mo_wordKind 73 = .ok (.ireturn, 1) := by decide +kernel
theorem d_Mo_wordKind_74 : decode b_Mo_wordKind 74 = .ok (.lload_n 0, 1) := by decide +kernel
theorem d_Mo_wordKind_75 : decode b_Mo_wordKind 75 = .ok (.ldc2_w 156, 3) := by decide +kernel
theorem d_Mo_wordKind_78 : decode b_Mo_wordKind 78 = .ok (.lcmp, 1) := by decide +kernel
theorem d_Mo_wordKind_79 : decode b_Mo_wordKind 79 = .ok (.ifCond .ne 6, 3) := by decide +kernel
theorem d_Mo_wordKind_82 : decode b_Mo_wordKind 82 = .ok (.bipush 10, 2) := by decide +kernel
theorem d_Mo_wordKind_84 : decode b_Mo_wordKind 84 = .ok (.ireturn, 1) := by decide +kernel
theorem d_Mo_wordKind_85 : decode b_Mo_wordKind 85 = .ok (.lload_n 0, 1) := by decide +kernel
theorem d_Mo_wordKind_86 : decode b_Mo_wordKind 86 = .ok (.ldc2_w 158, 3) := by decide +kernel
theorem d_Mo_wordKind_89 : decode b_Mo_wordKind 89 = .ok (.lcmp, 1) := by decide +kernel
theorem d_Mo_wordKind_90 : decode b_Mo_wordKind 90 = .ok (.ifCond .ne 6, 3) := by decide +kernel
theorem d_Mo_wordKind_93 : decode b_Mo_wordKind 93 = .ok (.bipush 11, 2) := by decide +kernel
theorem d_Mo_wordKind_95 : decode b_Mo_wordKind 95 = .ok (.ireturn, 1) := by decide +kernel
theorem d_Mo_wordKind_96 : decode b_Mo_wordKind 96 = .ok (.lload_n 0, 1) := by decide +kernel
theorem d_Mo_wordKind_97 : decode b_Mo_wordKind 97 = .ok (.ldc2_w 160, 3) := by decide +kernel
theorem d_Mo_wordKind_100 : decode b_Mo_wordKind 100 = .ok (.lcmp, 1) := by decide +kernel
theorem d_Mo_wordKind_101 : decode b_Mo_wordKind 101 = .ok (.ifCond .ne 8, 3) := by decide +kernel
theorem d_Mo_wordKind_104 : decode b_Mo_wordKind 104 = .ok (.bipush 12, 2) := by decide +kernel
theorem d_Mo_wordKind_106 : decode b_Mo_wordKind 106 = .ok (.goto 4, 3) := by decide +kernel
theorem d_Mo_wordKind_109 : decode b_Mo_wordKind 109 = .ok (.iconst 1, 1) := by decide +kernel
theorem d_Mo_wordKind_110 : decode b_Mo_wordKind 110 = .ok (.ireturn, 1) := by decide +kernel
theorem d_Mo_sign_0 : decode b_Mo_sign 0 = .ok (.iload_n 0, 1) := by decide +kernel
theorem d_Mo_sign_1 : decode b_Mo_sign 1 = .ok (.bipush 40, 2) := by decide +kernel
theorem d_Mo_sign_3 : decode b_Mo_sign 3 = .ok (.if_icmp .lt 9, 3) := by decide +kernel
theorem d_Mo_sign_6 : decode b_Mo_sign 6 = .ok (.iload_n 0, 1) := by decide +kernel
theorem d_Mo_sign_7 : decode b_Mo_sign 7 = .ok (.bipush 47, 2) := by decide +kernel
theorem d_Mo_sign_9 : decode b_Mo_sign 9 = .ok (.if_icmp .le 33, 3) := by decide +kernel
theorem d_Mo_sign_12 : decode b_Mo_sign 12 = .ok (.iload_n 0, 1) := by decide +kernel
theorem d_Mo_sign_13 : decode b_Mo_sign 13 = .ok (.bipush 59, 2) := by decide +kernel
theorem d_Mo_sign_15 : decode b_Mo_sign 15 = .ok (.if_icmp .eq 27, 3) := by decide +kernel
theorem d_Mo_sign_18 : decode b_Mo_sign 18 = .ok (.iload_n 0, 1) := by decide +kernel
theorem d_Mo_sign_19 : decode b_Mo_sign 19 = .ok (.bipush 60, 2) := by decide +kernel
theorem d_Mo_sign_21 : decode b_Mo_sign 21 = .ok (.if_icmp .lt 9, 3) := by decide +kernel
theorem d_Mo_sign_24 : decode b_Mo_sign 24 = .ok (.iload_n 0, 1) := by decide +kernel
theorem d_Mo_sign_25 : decode b_Mo_sign 25 = .ok (.bipush 62, 2) := by decide +kernel
theorem d_Mo_sign_27 : decode b_Mo_sign 27 = .ok (.if_icmp .le 15, 3) := by decide +kernel
theorem d_Mo_sign_30 : decode b_Mo_sign 30 = .ok (.iload_n 0, 1) := by decide +kernel
theorem d_Mo_sign_31 : decode b_Mo_sign 31 = .ok (.bipush 37, 2) := by decide +kernel
theorem d_Mo_sign_33 : decode b_Mo_sign 33 = .ok (.if_icmp .eq 9, 3) := by decide +kernel
theorem d_Mo_sign_36 : decode b_Mo_sign 36 = .ok (.iload_n 0, 1) := by decide +kernel
theorem d_Mo_sign_37 : decode b_Mo_sign 37 = .ok (.bipush 64, 2) := by decide +kernel
theorem d_Mo_sign_39 : decode b_Mo_sign 39 = .ok (.if_icmp .ne 7, 3) := by decide +kernel
theorem d_Mo_sign_42 : decode b_Mo_sign 42 = .ok (.iconst 1, 1) := by decide +kernel
theorem d_Mo_sign_43 : decode b_Mo_sign 43 = .ok (.goto 4, 3) := by decide +kernel
theorem d_Mo_sign_46 : decode b_Mo_sign 46 = .ok (.iconst 0, 1) := by decide +kernel
theorem d_Mo_sign_47 : decode b_Mo_sign 47 = .ok (.ireturn, 1) := by decide +kernel
theorem d_Mo_cutWord_0 : decode b_Mo_cutWord 0 = .ok (.aload_n 0, 1) := by decide +kernel
theorem d_Mo_cutWord_1 : decode b_Mo_cutWord 1 = .ok (.getfield 162, 3) := by decide +kernel
theorem d_Mo_cutWord_4 : decode b_Mo_cutWord 4 = .ok (.istore_n 2, 1) := by decide +kernel
theorem d_Mo_cutWord_5 : decode b_Mo_cutWord 5 = .ok (.iload_n 1, 1) := by decide +kernel
theorem d_Mo_cutWord_6 : decode b_Mo_cutWord 6 = .ok (.istore_n 3, 1) := by decide +kernel
theorem d_Mo_cutWord_7 : decode b_Mo_cutWord 7 = .ok (.aload_n 0, 1) := by decide +kernel
theorem d_Mo_cutWord_8 : decode b_Mo_cutWord 8 = .ok (.getfield 7, 3) := by decide +kernel
theorem d_Mo_cutWord_11 : decode b_Mo_cutWord 11 = .ok (.iload_n 1, 1) := by decide +kernel
theorem d_Mo_cutWord_12 : decode b_Mo_cutWord 12 = .ok (.iaload, 1) := by decide +kernel
theorem d_Mo_cutWord_13 : decode b_Mo_cutWord 13 = .ok (.invokestatic 165, 3) := by decide +kernel
theorem d_Mo_cutWord_16 : decode b_Mo_cutWord 16 = .ok (.istore 4, 2) := by decide +kernel
theorem d_Mo_cutWord_18 : decode b_Mo_cutWord 18 = .ok (.lconst 0, 1) := by decide +kernel
theorem d_Mo_cutWord_19 : decode b_Mo_cutWord 19 = .ok (.lstore 5, 2) := by decide +kernel
theorem d_Mo_cutWord_21 : decode b_Mo_cutWord 21 = .ok (.iload_n 3, 1) := by decide +kernel
theorem d_Mo_cutWord_22 : decode b_Mo_cutWord 22 = .ok (.aload_n 0, 1) := by decide +kernel
theorem d_Mo_cutWord_23 : decode b_Mo_cutWord 23 = .ok (.getfield 139, 3) := by decide +kernel
theorem d_Mo_cutWord_26 : decode b_Mo_cutWord 26 = .ok (.if_icmp .ge 87, 3) := by decide +kernel
theorem d_Mo_cutWord_29 : decode b_Mo_cutWord 29 = .ok (.iload_n 3, 1) := by decide +kernel
theorem d_Mo_cutWord_30 : decode b_Mo_cutWord 30 = .ok (.iload_n 1, 1) := by decide +kernel
theorem d_Mo_cutWord_31 : decode b_Mo_cutWord 31 = .ok (.bipush 10, 2) := by decide +kernel
theorem d_Mo_cutWord_33 : decode b_Mo_cutWord 33 = .ok (.iadd, 1) := by decide +kernel
theorem d_Mo_cutWord_34 : decode b_Mo_cutWord 34 = .ok (.if_icmp .ge 79, 3) := by decide +kernel
theorem d_Mo_cutWord_37 : decode b_Mo_cutWord 37 = .ok (.aload_n 0, 1) := by decide +kernel
theorem d_Mo_cutWord_38 : decode b_Mo_cutWord 38 = .ok (.getfield 7, 3) := by decide +kernel
theorem d_Mo_cutWord_41 : decode b_Mo_cutWord 41 = .ok (.iload_n 3, 1) := by decide +kernel
theorem d_Mo_cutWord_42 : decode b_Mo_cutWord 42 = .ok (.iaload, 1) := by decide +kernel
theorem d_Mo_cutWord_43 : decode b_Mo_cutWord 43 = .ok (.invokestatic 169, 3) := by decide +kernel
theorem d_Mo_cutWord_46 : decode b_Mo_cutWord 46 = .ok (.ifCond .ne 20, 3) := by decide +kernel
theorem d_Mo_cutWord_49 : decode b_Mo_cutWord 49 = .ok (.iload 4, 2) := by decide +kernel
theorem d_Mo_cutWord_51 : decode b_Mo_cutWord 51 = .ok (.ifCond .eq 62, 3) := by decide +kernel
theorem d_Mo_cutWord_54 : decode b_Mo_cutWord 54 = .ok (.aload_n 0, 1) := by decide +kernel
theorem d_Mo_cutWord_55 : decode b_Mo_cutWord 55 = .ok (.getfield 7, 3) := by decide +kernel
theorem d_Mo_cutWord_58 : decode b_Mo_cutWord 58 = .ok (.iload_n 3, 1) := by decide +kernel
theorem d_Mo_cutWord_59 : decode b_Mo_cutWord 59 = .ok (.iaload, 1) := by decide +kernel
theorem d_Mo_cutWord_60 : decode b_Mo_cutWord 60 = .ok (.invokestatic 165, 3) := by decide +kernel
theorem d_Mo_cutWord_63 : decode b_Mo_cutWord 63 = .ok (.ifCond .eq 50, 3) := by decide +kernel
theorem d_Mo_cutWord_66 : decode b_Mo_cutWord 66 = .ok (.iload 4, 2) := by decide +kernel
theorem d_Mo_cutWord_68 : decode b_Mo_cutWord 68 = .ok (.ifCond .eq 19, 3) := by decide +kernel
theorem d_Mo_cutWord_71 : decode b_Mo_cutWord 71 = .ok (.lload 5, 2) := by decide +kernel
theorem d_Mo_cutWord_73 : decode b_Mo_cutWord 73 = .ok (.bipush 8, 2) := by decide +kernel
theorem d_Mo_cutWord_75 : decode b_Mo_cutWord 75 = .ok (.lshl, 1) := by decide +kernel
theorem d_Mo_cutWord_76 : decode b_Mo_cutWord 76 = .ok (.aload_n 0, 1) := by decide +kernel
theorem d_Mo_cutWord_77 : decode b_Mo_cutWord 77 = .ok (.getfield 7, 3) := by decide +kernel
theorem d_Mo_cutWord_80 : decode b_Mo_cutWord 80 = .ok (.iload_n 3, 1) := by decide +kernel
theorem d_Mo_cutWord_81 : decode b_Mo_cutWord 81 = .ok (.iaload, 1) := by decide +kernel
theorem d_Mo_cutWord_82 : decode b_Mo_cutWord 82 = .ok (.i2l, 1) := by decide +kernel
theorem d_Mo_cutWord_83 : decode b_Mo_cutWord 83 = .ok (.lor, 1) := by decide +kernel
theorem d_Mo_cutWord_84 : decode b_Mo_cutWord 84 = .ok (.goto 21, 3) := by decide +kernel
theorem d_Mo_cutWord_87 : decode b_Mo_cutWord 87 = .ok (.lload 5, 2) := by decide +kernel
theorem d_Mo_cutWord_89 : decode b_Mo_cutWord 89 = .ok (.ldc2_w 172, 3) := by decide +kernel
theorem d_Mo_cutWord_92 : decode b_Mo_cutWord 92 = .ok (.lmul, 1) := by decide +kernel
theorem d_Mo_cutWord_93 : decode b_Mo_cutWord 93 = .ok (.aload_n 0, 1) := by decide +kernel
theorem d_Mo_cutWord_94 : decode b_Mo_cutWord 94 = .ok (.getfield 7, 3) := by decide +kernel
theorem d_Mo_cutWord_97 : decode b_Mo_cutWord 97 = .ok (.iload_n 3, 1) := by decide +kernel
theorem d_Mo_cutWord_98 : decode b_Mo_cutWord 98 = .ok (.iaload, 1) := by decide +kernel
theorem d_Mo_cutWord_99 : decode b_Mo_cutWord 99 = .ok (.i2l, 1) := by decide +kernel
theorem d_Mo_cutWord_100 : decode b_Mo_cutWord 100 = .ok (.ladd, 1) := by decide +kernel
theorem d_Mo_cutWord_101 : decode b_Mo_cutWord 101 = .ok (.ldc2_w 174, 3) := by decide +kernel
theorem d_Mo_cutWord_104 : decode b_Mo_cutWord 104 = .ok (.lsub, 1) := by decide +kernel
theorem d_Mo_cutWord_105 : decode b_Mo_cutWord 105 = .ok (.lstore 5, 2) := by decide +kernel
theorem d_Mo_cutWord_107 : decode b_Mo_cutWord 107 = .ok (.iinc 3 1, 3) := by decide +kernel
theorem d_Mo_cutWord_110 : decode b_Mo_cutWord 110 = .ok (.goto (-89), 3) := by decide +kernel
theorem d_Mo_cutWord_113 : decode b_Mo_cutWord 113 = .ok (.aload_n 0, 1) := by decide +kernel
theorem d_Mo_cutWord_114 : decode b_Mo_cutWord 114 = .ok (.getfield 13, 3) := by decide +kernel
theorem d_Mo_cutWord_117 : decode b_Mo_cutWord 117 = .ok (.iload_n 2, 1) := by decide +kernel
theorem d_Mo_cutWord_118 : decode b_Mo_cutWord 118 = .ok (.iload_n 3, 1) := by decide +kernel
theorem d_Mo_cutWord_119 : decode b_Mo_cutWord 119 = .ok (.iload_n 1, 1) := by decide +kernel
theorem d_Mo_cutWord_120 : decode b_Mo_cutWord 120 = .ok (.isub, 1) := by decide +kernel
theorem d_Mo_cutWord_121 : decode b_Mo_cutWord 121 = .ok (.iload 4, 2) := by decide +kernel
theorem d_Mo_cutWord_123 : decode b_Mo_cutWord 123 = .ok (.ifCond .eq 8, 3) := by decide +kernel
theorem d_Mo_cutWord_126 : decode b_Mo_cutWord 126 = .ok (.bipush 6, 2) := by decide +kernel
theorem d_Mo_cutWord_128 : decode b_Mo_cutWord 128 = .ok (.goto 5, 3) := by decide +kernel
theorem d_Mo_cutWord_131 : decode b_Mo_cutWord 131 = .ok (.bipush 9, 2) := by decide +kernel
theorem d_Mo_cutWord_133 : decode b_Mo_cutWord 133 = .ok (.if_icmp .le 8, 3) := by decide +kernel
theorem d_Mo_cutWord_136 : decode b_Mo_cutWord 136 = .ok (.bipush 99, 2) := by decide +kernel
theorem d_Mo_cutWord_138 : decode b_Mo_cutWord 138 = .ok (.goto 17, 3) := by decide +kernel
theorem d_Mo_cutWord_141 : decode b_Mo_cutWord 141 = .ok (.iload 4, 2) := by decide +kernel
theorem d_Mo_cutWord_143 : decode b_Mo_cutWord 143 = .ok (.ifCond .eq 11, 3) := by decide +kernel
theorem d_Mo_cutWord_146 : decode b_Mo_cutWord 146 = .ok (.lload 5, 2) := by decide +kernel
theorem d_Mo_cutWord_148 : decode b_Mo_cutWord 148 = .ok (.invokestatic 176, 3) := by decide +kernel
theorem d_Mo_cutWord_151 : decode b_Mo_cutWord 151 = .ok (.goto 4, 3) := by decide +kernel
theorem d_Mo_cutWord_154 : decode b_Mo_cutWord 154 = .ok (.iconst 2, 1) := by decide +kernel
theorem d_Mo_cutWord_155 : decode b_Mo_cutWord 155 = .ok (.iastore, 1) := by decide +kernel
theorem d_Mo_cutWord_156 : decode b_Mo_cutWord 156 = .ok (.aload_n 0, 1) := by decide +kernel
theorem d_Mo_cutWord_157 : decode b_Mo_cutWord 157 = .ok (.getfield 16, 3) := by decide +kernel
theorem d_Mo_cutWord_160 : decode b_Mo_cutWord 160 = .ok (.iload_n 2, 1) := by decide +kernel
theorem d_Mo_cutWord_161 : decode b_Mo_cutWord 161 = .ok (.lload 5, 2) := by decide +kernel
theorem d_Mo_cutWord_163 : decode b_Mo_cutWord 163 = .ok (.lastore, 1) := by decide +kernel
theorem d_Mo_cutWord_164 : decode b_Mo_cutWord 164 = .ok (.aload_n 0, 1) := by decide +kernel
theorem d_Mo_cutWord_165 : decode b_Mo_cutWord 165 = .ok (.getfield 23, 3) := by decide +kernel
theorem d_Mo_cutWord_168 : decode b_Mo_cutWord 168 = .ok (.iload_n 2, 1) := by decide +kernel
theorem d_Mo_cutWord_169 : decode b_Mo_cutWord 169 = .ok (.iload_n 3, 1) := by decide +kernel
theorem d_Mo_cutWord_170 : decode b_Mo_cutWord 170 = .ok (.iastore, 1) := by decide +kernel
theorem d_Mo_cutWord_171 : decode b_Mo_cutWord 171 = .ok (.return_, 1) := by decide +kernel
theorem d_Mo_cutAll_0 : decode b_Mo_cutAll 0 = .ok (.aload_n 0, 1) := by decide +kernel
theorem d_Mo_cutAll_1 : decode b_Mo_cutAll 1 = .ok (.iconst 0, 1) := by decide +kernel
theorem d_Mo_cutAll_2 : decode b_Mo_cutAll 2 = .ok (.putfield 162, 3) := by decide +kernel
theorem d_Mo_cutAll_5 : decode b_Mo_cutAll 5 = .ok (.iconst 0, 1) := by decide +kernel
theorem d_Mo_cutAll_6 : decode b_Mo_cutAll 6 = .ok (.istore_n 1, 1) := by decide +kernel
theorem d_Mo_cutAll_7 : decode b_Mo_cutAll 7 = .ok (.iload_n 1, 1) := by decide +kernel
theorem d_Mo_cutAll_8 : decode b_Mo_cutAll 8 = .ok (.aload_n 0, 1) := by decide +kernel
theorem d_Mo_cutAll_9 : decode b_Mo_cutAll 9 = .ok (.getfield 139, 3) := by decide +kernel
theorem d_Mo_cutAll_12 : decode b_Mo_cutAll 12 = .ok (.if_icmp .ge 190, 3) := by decide +kernel
theorem d_Mo_cutAll_15 : decode b_Mo_cutAll 15 = .ok (.aload_n 0, 1) := by decide +kernel
theorem d_Mo_cutAll_16 : decode b_Mo_cutAll 16 = .ok (.getfield 162, 3) := by decide +kernel
theorem d_Mo_cutAll_19 : decode b_Mo_cutAll 19 = .ok (.sipush 151, 3) := by decide +kernel
theorem d_Mo_cutAll_22 : decode b_Mo_cutAll 22 = .ok (.if_icmp .ge 180, 3) := by decide +kernel
theorem d_Mo_cutAll_25 : decode b_Mo_cutAll 25 = .ok (.aload_n 0, 1) := by decide +kernel
theorem d_Mo_cutAll_26 : decode b_Mo_cutAll 26 = .ok (.getfield 7, 3) := by decide +kernel
theorem d_Mo_cutAll_29 : decode b_Mo_cutAll 29 = .ok (.iload_n 1, 1) := by decide +kernel
theorem d_Mo_cutAll_30 : decode b_Mo_cutAll 30 = .ok (.iaload, 1) := by decide +kernel
theorem d_Mo_cutAll_31 : decode b_Mo_cutAll 31 = .ok (.istore_n 2, 1) := by decide +kernel
theorem d_Mo_cutAll_32 : decode b_Mo_cutAll 32 = .ok (.iload_n 2, 1) := by decide +kernel
theorem d_Mo_cutAll_33 : decode b_Mo_cutAll 33 = .ok (.bipush 32, 2) := by decide +kernel
theorem d_Mo_cutAll_35 : decode b_Mo_cutAll 35 = .ok (.if_icmp .ne 9, 3) := by decide +kernel
theorem d_Mo_cutAll_38 : decode b_Mo_cutAll 38 = .ok (.iinc 1 1, 3) := by decide +kernel
theorem d_Mo_cutAll_41 : decode b_Mo_cutAll 41 = .ok (.goto (-34), 3) := by decide +kernel
theorem d_Mo_cutAll_44 : decode b_Mo_cutAll 44 = .ok (.aload_n 0, 1) := by decide +kernel
theorem d_Mo_cutAll_45 : decode b_Mo_cutAll 45 = .ok (.getfield 162, 3) := by decide +kernel
theorem d_Mo_cutAll_48 : decode b_Mo_cutAll 48 = .ok (.istore_n 3, 1) := by decide +kernel
theorem d_Mo_cutAll_49 : decode b_Mo_cutAll 49 = .ok (.aload_n 0, 1) := by decide +kernel
theorem d_Mo_cutAll_50 : decode b_Mo_cutAll 50 = .ok (.getfield 20, 3) := by decide +kernel
theorem d_Mo_cutAll_53 : decode b_Mo_cutAll 53 = .ok (.iload_n 3, 1) := by decide +kernel
theorem d_Mo_cutAll_54 : decode b_Mo_cutAll 54 = .ok (.iload_n 1, 1) := by decide +kernel
theorem d_Mo_cutAll_55 : decode b_Mo_cutAll 55 = .ok (.iastore, 1) := by decide +kernel
theorem d_Mo_cutAll_56 : decode b_Mo_cutAll 56 = .ok (.aload_n 0, 1) := by decide +kernel
theorem d_Mo_cutAll_57 : decode b_Mo_cutAll 57 = .ok (.getfield 23, 3) := by decide +kernel
theorem d_Mo_cutAll_60 : decode b_Mo_cutAll 60 = .ok (.iload_n 3, 1) := by decide +kernel
theorem d_Mo_cutAll_61 : decode b_Mo_cutAll 61 = .ok (.iload_n 1, 1) := by decide +kernel
theorem d_Mo_cutAll_62 : decode b_Mo_cutAll 62 = .ok (.iconst 1, 1) := by decide +kernel
theorem d_Mo_cutAll_63 : decode b_Mo_cutAll 63 = .ok (.iadd, 1) := by decide +kernel
theorem d_Mo_cutAll_64 : decode b_Mo_cutAll 64 = .ok (.iastore, 1) := by decide +kernel
theorem d_Mo_cutAll_65 : decode b_Mo_cutAll 65 = .ok (.aload_n 0, 1) := by decide +kernel
theorem d_Mo_cutAll_66 : decode b_Mo_cutAll 66 = .ok (.getfield 13, 3) := by decide +kernel
theorem d_Mo_cutAll_69 : decode b_Mo_cutAll 69 = .ok (.iload_n 3, 1) := by decide +kernel
theorem d_Mo_cutAll_70 : decode b_Mo_cutAll 70 = .ok (.iload_n 2, 1) := by decide +kernel
theorem d_Mo_cutAll_71 : decode b_Mo_cutAll 71 = .ok (.invokestatic 180, 3) := by decide +kernel
theorem d_Mo_cutAll_74 : decode b_Mo_cutAll 74 = .ok (.ifCond .eq 7, 3) := by decide +kernel
theorem d_Mo_cutAll_77 : decode b_Mo_cutAll 77 = .ok (.iload_n 2, 1) := by decide +kernel
theorem d_Mo_cutAll_78 : decode b_Mo_cutAll 78 = .ok (.goto 5, 3) := by decide +kernel
theorem d_Mo_cutAll_81 : decode b_Mo_cutAll 81 = .ok (.bipush 99, 2) := by decide +kernel
theorem d_Mo_cutAll_83 : decode b_Mo_cutAll 83 = .ok (.iastore, 1) := by decide +kernel
theorem d_Mo_cutAll_84 : decode b_Mo_cutAll 84 = .ok (.iload_n 2, 1) := by decide +kernel
theorem d_Mo_cutAll_85 : decode b_Mo_cutAll 85 = .ok (.invokestatic 165, 3) := by decide +kernel
theorem d_Mo_cutAll_88 : decode b_Mo_cutAll 88 = .ok (.ifCond .ne 10, 3) := by decide +kernel
theorem d_Mo_cutAll_91 : decode b_Mo_cutAll 91 = .ok (.iload_n 2, 1) := by decide +kernel
theorem d_Mo_cutAll_92 : decode b_Mo_cutAll 92 = .ok (.invokestatic 169, 3) := by decide +kernel
theorem d_Mo_cutAll_95 : decode b_Mo_cutAll 95 = .ok (.ifCond .eq 8, 3) := by decide +kernel
theorem d_Mo_cutAll_98 : decode b_Mo_cutAll 98 = .ok (.aload_n 0, 1) := by decide +kernel
theorem d_Mo_cutAll_99 : decode b_Mo_cutAll 99 = .ok (.iload_n 1, 1) := by decide +kernel
theorem d_Mo_cutAll_100 : decode b_Mo_cutAll 100 = .ok (.invokevirtual 183, 3) := by decide +kernel
theorem d_Mo_cutAll_103 : decode b_Mo_cutAll 103 = .ok (.iload_n 2, 1) := by decide +kernel
theorem d_Mo_cutAll_104 : decode b_Mo_cutAll 104 = .ok (.bipush 58, 2) := by decide +kernel
theorem d_Mo_cutAll_106 : decode b_Mo_cutAll 106 = .ok (.if_icmp .ne 43, 3) := by decide +kernel
theorem d_Mo_cutAll_109 : decode b_Mo_cutAll 109 = .ok (.iload_n 1, 1) := by decide +kernel
theorem d_Mo_cutAll_110 : decode b_Mo_cutAll 110 = .ok (.iconst 1, 1) := by decide +kernel
theorem d_Mo_cutAll_111 : decode b_Mo_cutAll 111 = .ok (.iadd, 1) := by decide +kernel
theorem d_Mo_cutAll_112 : decode b_Mo_cutAll 112 = .ok (.aload_n 0, 1) := by decide +kernel
theorem d_Mo_cutAll_113 : decode b_Mo_cutAll 113 = .ok (.getfield 139, 3) := by decide +kernel
theorem d_Mo_cutAll_116 : decode b_Mo_cutAll 116 = .ok (.if_icmp .ge 33, 3) := by decide +kernel
theorem d_Mo_cutAll_119 : decode b_Mo_cutAll 119 = .ok (.aload_n 0, 1) := by decide +kernel
theorem d_Mo_cutAll_120 : decode b_Mo_cutAll 120 = .ok (.getfield 7, 3) := by decide +kernel
theorem d_Mo_cutAll_123 : decode b_Mo_cutAll 123 = .ok (.iload_n 1, 1) := by decide +kernel
theorem d_Mo_cutAll_124 : decode b_Mo_cutAll 124 = .ok (.iconst 1, 1) := by decide +kernel
theorem d_Mo_cutAll_125 : decode b_Mo_cutAll 125 = .ok (.iadd, 1) := by decide +kernel
theorem d_Mo_cutAll_126 : decode b_Mo_cutAll 126 = .ok (.iaload, 1) := by decide +kernel
theorem d_Mo_cutAll_127 : decode b_Mo_cutAll 127 = .ok (.bipush 61, 2) := by decide +kernel
theorem d_Mo_cutAll_129 : decode b_Mo_cutAll 129 = .ok (.if_icmp .ne 20, 3) := by decide +kernel
theorem d_Mo_cutAll_132 : decode b_Mo_cutAll 132 = .ok (.aload_n 0, 1) := by decide +kernel
theorem d_Mo_cutAll_133 : decode b_Mo_cutAll 133 = .ok (.getfield 13, 3) := by decide +kernel
theorem d_Mo_cutAll_136 : decode b_Mo_cutAll 136 = .ok (.iload_n 3, 1) := by decide +kernel
theorem d_Mo_cutAll_137 : decode b_Mo_cutAll 137 = .ok (.bipush 13, 2) := by decide +kernel
theorem d_Mo_cutAll_139 : decode b_Mo_cutAll 139 = .ok (.iastore, 1) := by decide +kernel
theorem d_Mo_cutAll_140 : decode b_Mo_cutAll 140 = .ok (.aload_n 0, 1) := by decide +kernel
theorem d_Mo_cutAll_141 : decode b_Mo_cutAll 141 = .ok (.getfield 23, 3) := by decide +kernel
theorem d_Mo_cutAll_144 : decode b_Mo_cutAll 144 = .ok (.iload_n 3, 1) := by decide +kernel
theorem d_Mo_cutAll_145 : decode b_Mo_cutAll 145 = .ok (.iload_n 1, 1) := by decide +kernel
theorem d_Mo_cutAll_146 : decode b_Mo_cutAll 146 = .ok (.iconst 2, 1) := by decide +kernel
theorem d_Mo_cutAll_147 : decode b_Mo_cutAll 147 = .ok (.iadd, 1) := by decide +kernel
theorem d_Mo_cutAll_148 : decode b_Mo_cutAll 148 = .ok (.iastore, 1) := by decide +kernel
theorem d_Mo_cutAll_149 : decode b_Mo_cutAll 149 = .ok (.iload_n 3, 1) := by decide +kernel
theorem d_Mo_cutAll_150 : decode b_Mo_cutAll 150 = .ok (.sipush 150, 3) := by decide +kernel
theorem d_Mo_cutAll_153 : decode b_Mo_cutAll 153 = .ok (.if_icmp .ne 11, 3) := by decide +kernel
theorem d_Mo_cutAll_156 : decode b_Mo_cutAll 156 = .ok (.aload_n 0, 1) := by decide +kernel
theorem d_Mo_cutAll_157 : decode b_Mo_cutAll 157 = .ok (.getfield 13, 3) := by decide +kernel
theorem d_Mo_cutAll_160 : decode b_Mo_cutAll 160 = .ok (.iload_n 3, 1) := by decide +kernel
theorem d_Mo_cutAll_161 : decode b_Mo_cutAll 161 = .ok (.bipush 99, 2) := by decide +kernel
theorem d_Mo_cutAll_163 : decode b_Mo_cutAll 163 = .ok (.iastore, 1) := by decide +kernel
theorem d_Mo_cutAll_164 : decode b_Mo_cutAll 164 = .ok (.aload_n 0, 1) := by decide +kernel
theorem d_Mo_cutAll_165 : decode b_Mo_cutAll 165 = .ok (.dup, 1) := by decide +kernel
theorem d_Mo_cutAll_166 : decode b_Mo_cutAll 166 = .ok (.getfield 162, 3) := by decide +kernel
theorem d_Mo_cutAll_169 : decode b_Mo_cutAll 169 = .ok (.iconst 1, 1) := by decide +kernel
theorem d_Mo_cutAll_170 : decode b_Mo_cutAll 170 = .ok (.iadd, 1) := by decide +kernel
theorem d_Mo_cutAll_171 : decode b_Mo_cutAll 171 = .ok (.putfield 162, 3) := by decide +kernel
theorem d_Mo_cutAll_174 : decode b_Mo_cutAll 174 = .ok (.aload_n 0, 1) := by decide +kernel
theorem d_Mo_cutAll_175 : decode b_Mo_cutAll 175 = .ok (.getfield 13, 3) := by decide +kernel
theorem d_Mo_cutAll_178 : decode b_Mo_cutAll 178 = .ok (.iload_n 3, 1) := by decide +kernel
theorem d_Mo_cutAll_179 : decode b_Mo_cutAll 179 = .ok (.iaload, 1) := by decide +kernel
theorem d_Mo_cutAll_180 : decode b_Mo_cutAll 180 = .ok (.bipush 99, 2) := by decide +kernel
theorem d_Mo_cutAll_182 : decode b_Mo_cutAll 182 = .ok (.if_icmp .ne 10, 3) := by decide +kernel
theorem d_Mo_cutAll_185 : decode b_Mo_cutAll 185 = .ok (.aload_n 0, 1) := by decide +kernel
theorem d_Mo_cutAll_186 : decode b_Mo_cutAll 186 = .ok (.getfield 139, 3) := by decide +kernel
theorem d_Mo_cutAll_189 : decode b_Mo_cutAll 189 = .ok (.goto 9, 3) := by decide +kernel
theorem d_Mo_cutAll_192 : decode b_Mo_cutAll 192 = .ok (.aload_n 0, 1) := by decide +kernel
theorem d_Mo_cutAll_193 : decode b_Mo_cutAll 193 = .ok (.getfield 23, 3) := by decide +kernel
theorem d_Mo_cutAll_196 : decode b_Mo_cutAll 196 = .ok (.iload_n 3, 1) := by decide +kernel
theorem d_Mo_cutAll_197 : decode b_Mo_cutAll 197 = .ok (.iaload, 1) := by decide +kernel
theorem d_Mo_cutAll_198 : decode b_Mo_cutAll 198 = .ok (.istore_n 1, 1) := by decide +kernel
theorem d_Mo_cutAll_199 : decode b_Mo_cutAll 199 = .ok (.goto (-192), 3) := by decide +kernel
theorem d_Mo_cutAll_202 : decode b_Mo_cutAll 202 = .ok (.aload_n 0, 1) := by decide +kernel
theorem d_Mo_cutAll_203 : decode b_Mo_cutAll 203 = .ok (.getfield 162, 3) := by decide +kernel
theorem d_Mo_cutAll_206 : decode b_Mo_cutAll 206 = .ok (.istore_n 2, 1) := by decide +kernel
theorem d_Mo_cutAll_207 : decode b_Mo_cutAll 207 = .ok (.iload_n 2, 1) := by decide +kernel
theorem d_Mo_cutAll_208 : decode b_Mo_cutAll 208 = .ok (.sipush 155, 3) := by decide +kernel
theorem d_Mo_cutAll_211 : decode b_Mo_cutAll 211 = .ok (.if_icmp .ge 16, 3) := by decide +kernel
theorem d_Mo_cutAll_214 : decode b_Mo_cutAll 214 = .ok (.aload_n 0, 1) := by decide +kernel
theorem d_Mo_cutAll_215 : decode b_Mo_cutAll 215 = .ok (.getfield 13, 3) := by decide +kernel
theorem d_Mo_cutAll_218 : decode b_Mo_cutAll 218 = .ok (.iload_n 2, 1) := by decide +kernel
theorem d_Mo_cutAll_219 : decode b_Mo_cutAll 219 = .ok (.iconst 0, 1) := by decide +kernel
theorem d_Mo_cutAll_220 : decode b_Mo_cutAll 220 = .ok (.iastore, 1) := by decide +kernel
theorem d_Mo_cutAll_221 : decode b_Mo_cutAll 221 = .ok (.iinc 2 1, 3) := by decide +kernel
theorem d_Mo_cutAll_224 : decode b_Mo_cutAll 224 = .ok (.goto (-17), 3) := by decide +kernel
theorem d_Mo_cutAll_227 : decode b_Mo_cutAll 227 = .ok (.return_, 1) := by decide +kernel
theorem d_Mo_blame_0 : decode b_Mo_blame 0 = .ok (.aload_n 0, 1) := by decide +kernel
theorem d_Mo_blame_1 : decode b_Mo_blame 1 = .ok (.getfield 187, 3) := by decide +kernel
theorem d_Mo_blame_4 : decode b_Mo_blame 4 = .ok (.ifCond .ge 8, 3) := by decide +kernel
theorem d_Mo_blame_7 : decode b_Mo_blame 7 = .ok (.aload_n 0, 1) := by decide +kernel
theorem d_Mo_blame_8 : decode b_Mo_blame 8 = .ok (.iload_n 1, 1) := by decide +kernel
theorem d_Mo_blame_9 : decode b_Mo_blame 9 = .ok (.putfield 187, 3) := by decide +kernel
theorem d_Mo_blame_12 : decode b_Mo_blame 12 = .ok (.return_, 1) := by decide +kernel
theorem d_Mo_take_0 : decode b_Mo_take 0 = .ok (.aload_n 0, 1) := by decide +kernel
theorem d_Mo_take_1 : decode b_Mo_take 1 = .ok (.getfield 187, 3) := by decide +kernel
theorem d_Mo_take_4 : decode b_Mo_take 4 = .ok (.ifCond .ge 16, 3) := by decide +kernel
theorem d_Mo_take_7 : decode b_Mo_take 7 = .ok (.aload_n 0, 1) := by decide +kernel
theorem d_Mo_take_8 : decode b_Mo_take 8 = .ok (.getfield 13, 3) := by decide +kernel
theorem d_Mo_take_11 : decode b_Mo_take 11 = .ok (.aload_n 0, 1) := by decide +kernel
theorem d_Mo_take_12 : decode b_Mo_take 12 = .ok (.getfield 190, 3) := by decide +kernel
theorem d_Mo_take_15 : decode b_Mo_take 15 = .ok (.iaload, 1) := by decide +kernel
theorem d_Mo_take_16 : decode b_Mo_take 16 = .ok (.iload_n 1, 1) := by decide +kernel
theorem d_Mo_take_17 : decode b_Mo_take 17 = .ok (.if_icmp .eq 5, 3) := by decide +kernel
theorem d_Mo_take_20 : decode b_Mo_take 20 = .ok (.iconst 0, 1) := by decide +kernel
theorem d_Mo_take_21 : decode b_Mo_take 21 = .ok (.ireturn, 1) := by decide +kernel
theorem d_Mo_take_22 : decode b_Mo_take 22 = .ok (.aload_n 0, 1) := by decide +kernel
theorem d_Mo_take_23 : decode b_Mo_take 23 = .ok (.dup, 1) := by decide +kernel
theorem d_Mo_take_24 : decode b_Mo_take 24 = .ok (.getfield 190, 3) := by decide +kernel
theorem d_Mo_take_27 : decode b_Mo_take 27 = .ok (.iconst 1, 1) := by decide +kernel
theorem d_Mo_take_28 : decode b_Mo_take 28 = .ok (.iadd, 1) := by decide +kernel
theorem d_Mo_take_29 : decode b_Mo_take 29 = .ok (.putfield 190, 3) := by decide +kernel
theorem d_Mo_take_32 : decode b_Mo_take 32 = .ok (.iconst 1, 1) := by decide +kernel
theorem d_Mo_take_33 : decode b_Mo_take 33 = .ok (.ireturn, 1) := by decide +kernel
theorem d_Mo_need_0 : decode b_Mo_need 0 = .ok (.aload_n 0, 1) := by decide +kernel
theorem d_Mo_need_1 : decode b_Mo_need 1 = .ok (.iload_n 1, 1) := by decide +kernel
theorem d_Mo_need_2 : decode b_Mo_need 2 = .ok (.invokevirtual 193, 3) := by decide +kernel
theorem d_Mo_need_5 : decode b_Mo_need 5 = .ok (.ifCond .ne 11, 3) := by decide +kernel
theorem d_Mo_need_8 : decode b_Mo_need 8 = .ok (.aload_n 0, 1) := by decide +kernel
theorem d_Mo_need_9 : decode b_Mo_need 9 = .ok (.aload_n 0, 1) := by decide +kernel
theorem d_Mo_need_10 : decode b_Mo_need 10 = .ok (.getfield 190, 3) := by decide +kernel
theorem d_Mo_need_13 : decode b_Mo_need 13 = .ok (.invokevirtual 196, 3) := by decide +kernel
theorem d_Mo_need_16 : decode b_Mo_need 16 = .ok (.return_, 1) := by decide +kernel
theorem d_Mo_declare_0 : decode b_Mo_declare 0 = .ok (.aload_n 0, 1) := by decide +kernel
theorem d_Mo_declare_1 : decode b_Mo_declare 1 = .ok (.getfield 187, 3) := by decide +kernel
theorem d_Mo_declare_4 : decode b_Mo_declare 4 = .ok (.ifCond .ge 42, 3) := by decide +kernel
theorem d_Mo_declare_7 : decode b_Mo_declare 7 = .ok (.aload_n 0, 1) := by decide +kernel
theorem d_Mo_declare_8 : decode b_Mo_declare 8 = .ok (.getfield 13, 3) := by decide +kernel
theorem d_Mo_declare_11 : decode b_Mo_declare 11 = .ok (.aload_n 0, 1) := by decide +kernel
theorem d_Mo_declare_12 : decode b_Mo_declare 12 = .ok (.getfield 190, 3) := by decide +kernel
theorem d_Mo_declare_15 : decode b_Mo_declare 15 = .ok (.iaload, 1) := by decide +kernel
theorem d_Mo_declare_16 : decode b_Mo_declare 16 = .ok (.iconst 1, 1) := by decide +kernel
theorem d_Mo_declare_17 : decode b_Mo_declare 17 = .ok (.if_icmp .ne 29, 3) := by decide +kernel
theorem d_Mo_declare_20 : decode b_Mo_declare 20 = .ok (.iload_n 1, 1) := by decide +kernel
theorem d_Mo_declare_21 : decode b_Mo_declare 21 = .ok (.iconst 3, 1) := by decide +kernel
theorem d_Mo_declare_22 : decode b_Mo_declare 22 = .ok (.if_icmp .ne 15, 3) := by decide +kernel
theorem d_Mo_declare_25 : decode b_Mo_declare 25 = .ok (.aload_n 0, 1) := by decide +kernel
theorem d_Mo_declare_26 : decode b_Mo_declare 26 = .ok (.getfield 199, 3) := by decide +kernel
theorem d_Mo_declare_29 : decode b_Mo_declare 29 = .ok (.bipush 6, 2) := by decide +kernel
theorem d_Mo_declare_31 : decode b_Mo_declare 31 = .ok (.if_icmp .ne 24, 3) := by decide +kernel
theorem d_Mo_declare_34 : decode b_Mo_declare 34 = .ok (.goto 12, 3) := by decide +kernel
theorem d_Mo_declare_37 : decode b_Mo_declare 37 = .ok (.aload_n 0, 1) := by decide +kernel
theorem d_Mo_declare_38 : decode b_Mo_declare 38 = .ok (.getfield 202, 3) := by decide +kernel
theorem d_Mo_declare_41 : decode b_Mo_declare 41 = .ok (.bipush 12, 2) := by decide +kernel
theorem d_Mo_declare_43 : decode b_Mo_declare 43 = .ok (.if_icmp .ne 12, 3) := by decide +kernel
theorem d_Mo_declare_46 : decode b_Mo_declare 46 = .ok (.aload_n 0, 1) := by decide +kernel
theorem d_Mo_declare_47 : decode b_Mo_declare 47 = .ok (.aload_n 0, 1) := by decide +kernel
theorem d_Mo_declare_48 : decode b_Mo_declare 48 = .ok (.getfield 190, 3) := by decide +kernel
theorem d_Mo_declare_51 : decode b_Mo_declare 51 = .ok (.invokevirtual 196, 3) := by decide +kernel
theorem d_Mo_declare_54 : decode b_Mo_declare 54 = .ok (.return_, 1) := by decide +kernel
theorem d_Mo_declare_55 : decode b_Mo_declare 55 = .ok (.iconst 0, 1) := by decide +kernel
theorem d_Mo_declare_56 : decode b_Mo_declare 56 = .ok (.istore_n 2, 1) := by decide +kernel
theorem d_Mo_declare_57 : decode b_Mo_declare 57 = .ok (.iload_n 2, 1) := by decide +kernel
theorem d_Mo_declare_58 : decode b_Mo_declare 58 = .ok (.aload_n 0, 1) := by decide +kernel
theorem d_Mo_declare_59 : decode b_Mo_declare 59 = .ok (.getfield 205, 3) := by decide +kernel
theorem d_Mo_declare_62 : decode b_Mo_declare 62 = .ok (.if_icmp .ge 49, 3) := by decide +kernel
theorem d_Mo_declare_65 : decode b_Mo_declare 65 = .ok (.aload_n 0, 1) := by decide +kernel
theorem d_Mo_declare_66 : decode b_Mo_declare 66 = .ok (.getfield 54, 3) := by decide +kernel
theorem d_Mo_declare_69 : decode b_Mo_declare 69 = .ok (.iload_n 2, 1) := by decide +kernel
theorem d_Mo_declare_70 : decode b_Mo_declare 70 = .ok (.iaload, 1) := by decide +kernel
theorem d_Mo_declare_71 : decode b_Mo_declare 71 = .ok (.aload_n 0, 1) := by decide +kernel
theorem d_Mo_declare_72 : decode b_Mo_declare 72 = .ok (.getfield 208, 3) := by decide +kernel
theorem d_Mo_declare_75 : decode b_Mo_declare 75 = .ok (.if_icmp .ne 30, 3) := by decide +kernel
theorem d_Mo_declare_78 : decode b_Mo_declare 78 = .ok (.aload_n 0, 1) := by decide +kernel
theorem d_Mo_declare_79 : decode b_Mo_declare 79 = .ok (.getfield 48, 3) := by decide +kernel
theorem d_Mo_declare_82 : decode b_Mo_declare 82 = .ok (.iload_n 2, 1) := by decide +kernel
theorem d_Mo_declare_83 : decode b_Mo_declare 83 = .ok (.laload, 1) := by decide +kernel
theorem d_Mo_declare_84 : decode b_Mo_declare 84 = .ok (.aload_n 0, 1) := by decide +kernel
theorem d_Mo_declare_85 : decode b_Mo_declare 85 = .ok (.getfield 16, 3) := by decide +kernel
theorem d_Mo_declare_88 : decode b_Mo_declare 88 = .ok (.aload_n 0, 1) := by decide +kernel
theorem d_Mo_declare_89 : decode b_Mo_declare 89 = .ok (.getfield 190, 3) := by decide +kernel
theorem d_Mo_declare_92 : decode b_Mo_declare 92 = .ok (.laload, 1) := by decide +kernel
theorem d_Mo_declare_93 : decode b_Mo_declare 93 = .ok (.lcmp, 1) := by decide +kernel
theorem d_Mo_declare_94 : decode b_Mo_declare 94 = .ok (.ifCond .ne 11, 3) := by decide +kernel
theorem d_Mo_declare_97 : decode b_Mo_declare 97 = .ok (.aload_n 0, 1) := by decide +kernel
theorem d_Mo_declare_98 : decode b_Mo_declare 98 = .ok (.aload_n 0, 1) := by decide +kernel
theorem d_Mo_declare_99 : decode b_Mo_declare 99 = .ok (.getfield 190, 3) := by decide +kernel
theorem d_Mo_declare_102 : decode b_Mo_declare 102 = .ok (.invokevirtual 196, 3) := by decide +kernel
theorem d_Mo_declare_105 : decode b_Mo_declare 105 = .ok (.iinc 2 1, 3) := by decide +kernel
theorem d_Mo_declare_108 : decode b_Mo_declare 108 = .ok (.goto (-51), 3) := by decide +kernel
theorem d_Mo_declare_111 : decode b_Mo_declare 111 = .ok (.aload_n 0, 1) := by decide +kernel
theorem d_Mo_declare_112 : decode b_Mo_declare 112 = .ok (.getfield 187, 3) := by decide +kernel
theorem d_Mo_declare_115 : decode b_Mo_declare 115 = .ok (.ifCond .lt 4, 3) := by decide +kernel
theorem d_Mo_declare_118 : decode b_Mo_declare 118 = .ok (.return_, 1) := by decide +kernel
theorem d_Mo_declare_119 : decode b_Mo_declare 119 = .ok (.aload_n 0, 1) := by decide +kernel
theorem d_Mo_declare_120 : decode b_Mo_declare 120 = .ok (.getfield 48, 3) := by decide +kernel
theorem d_Mo_declare_123 : decode b_Mo_declare 123 = .ok (.aload_n 0, 1) := by decide +kernel
theorem d_Mo_declare_124 : decode b_Mo_declare 124 = .ok (.getfield 205, 3) := by decide +kernel
theorem d_Mo_declare_127 : decode b_Mo_declare 127 = .ok (.aload_n 0, 1) := by decide +kernel
theorem d_Mo_declare_128 : decode b_Mo_declare 128 = .ok (.getfield 16, 3) := by decide +kernel
theorem d_Mo_declare_131 : decode b_Mo_declare 131 = .ok (.aload_n 0, 1) := by decide +kernel
theorem d_Mo_declare_132 : decode b_Mo_declare 132 = .ok (.getfield 190, 3) := by decide +kernel
theorem d_Mo_declare_135 : decode b_Mo_declare 135 = .ok (.laload, 1) := by decide +kernel
theorem d_Mo_declare_136 : decode b_Mo_declare 136 = .ok (.lastore, 1) := by decide +kernel
theorem d_Mo_declare_137 : decode b_Mo_declare 137 = .ok (.aload_n 0, 1) := by decide +kernel
theorem d_Mo_declare_138 : decode b_Mo_declare 138 = .ok (.getfield 51, 3) := by decide +kernel
theorem d_Mo_declare_141 : decode b_Mo_declare 141 = .ok (.aload_n 0, 1) := by decide +kernel
theorem d_Mo_declare_142 : decode b_Mo_declare 142 = .ok (.getfield 205, 3) := by decide +kernel
theorem d_Mo_declare_145 : decode b_Mo_declare 145 = .ok (.iload_n 1, 1) := by decide +kernel
theorem d_Mo_declare_146 : decode b_Mo_declare 146 = .ok (.iastore, 1) := by decide +kernel
theorem d_Mo_declare_147 : decode b_Mo_declare 147 = .ok (.aload_n 0, 1) := by decide +kernel
theorem d_Mo_declare_148 : decode b_Mo_declare 148 = .ok (.getfield 54, 3) := by decide +kernel
theorem d_Mo_declare_151 : decode b_Mo_declare 151 = .ok (.aload_n 0, 1) := by decide +kernel
theorem d_Mo_declare_152 : decode b_Mo_declare 152 = .ok (.getfield 205, 3) := by decide +kernel
theorem d_Mo_declare_155 : decode b_Mo_declare 155 = .ok (.aload_n 0, 1) := by decide +kernel
theorem d_Mo_declare_156 : decode b_Mo_declare 156 = .ok (.getfield 208, 3) := by decide +kernel
theorem d_Mo_declare_159 : decode b_Mo_declare 159 = .ok (.iastore, 1) := by decide +kernel
theorem d_Mo_declare_160 : decode b_Mo_declare 160 = .ok (.aload_n 0, 1) := by decide +kernel
theorem d_Mo_declare_161 : decode b_Mo_declare 161 = .ok (.getfield 60, 3) := by decide +kernel
theorem d_Mo_declare_164 : decode b_Mo_declare 164 = .ok (.aload_n 0, 1) := by decide +kernel
theorem d_Mo_declare_165 : decode b_Mo_declare 165 = .ok (.getfield 205, 3) := by decide +kernel
theorem d_Mo_declare_168 : decode b_Mo_declare 168 = .ok (.iconst 0, 1) := by decide +kernel
theorem d_Mo_declare_169 : decode b_Mo_declare 169 = .ok (.iastore, 1) := by decide +kernel
theorem d_Mo_declare_170 : decode b_Mo_declare 170 = .ok (.iload_n 1, 1) := by decide +kernel
theorem d_Mo_declare_171 : decode b_Mo_declare 171 = .ok (.iconst 3, 1) := by decide +kernel
theorem d_Mo_declare_172 : decode b_Mo_declare 172 = .ok (.if_icmp .ne 13, 3) := by decide +kernel
theorem d_Mo_declare_175 : decode b_Mo_declare 175 = .ok (.aload_n 0, 1) := by decide +kernel
theorem d_Mo_declare_176 : decode b_Mo_declare 176 = .ok (.dup, 1) := by decide +kernel
theorem d_Mo_declare_177 : decode b_Mo_declare 177 = .ok (.getfield 199, 3) := by decide +kernel
theorem d_Mo_declare_180 : decode b_Mo_declare 180 = .ok (.iconst 1, 1) := by decide +kernel
theorem d_Mo_declare_181 : decode b_Mo_declare 181 = .ok (.iadd, 1) := by decide +kernel
theorem d_Mo_declare_182 : decode b_Mo_declare 182 = .ok (.putfield 199, 3) := by decide +kernel
theorem d_Mo_declare_185 : decode b_Mo_declare 185 = .ok (.iload_n 1, 1) := by decide +kernel
theorem d_Mo_declare_186 : decode b_Mo_declare 186 = .ok (.iconst 3, 1) := by decide +kernel
theorem d_Mo_declare_187 : decode b_Mo_declare 187 = .ok (.if_icmp .eq 13, 3) := by decide +kernel
theorem d_Mo_declare_190 : decode b_Mo_declare 190 = .ok (.aload_n 0, 1) := by decide +kernel
theorem d_Mo_declare_191 : decode b_Mo_declare 191 = .ok (.dup, 1) := by decide +kernel
theorem d_Mo_declare_192 : decode b_Mo_declare 192 = .ok (.getfield 202, 3) := by decide +kernel
theorem d_Mo_declare_195 : decode b_Mo_declare 195 = .ok (.iconst 1, 1) := by decide +kernel
theorem d_Mo_declare_196 : decode b_Mo_declare 196 = .ok (.iadd, 1) := by decide +kernel
theorem d_Mo_declare_197 : decode b_Mo_declare 197 = .ok (.putfield 202, 3) := by decide +kernel
theorem d_Mo_declare_200 : decode b_Mo_declare 200 = .ok (.aload_n 0, 1) := by decide +kernel
theorem d_Mo_declare_201 : decode b_Mo_declare 201 = .ok (.dup, 1) := by decide +kernel
theorem d_Mo_declare_202 : decode b_Mo_declare 202 = .ok (.getfield 205, 3) := by decide +kernel
theorem d_Mo_declare_205 : decode b_Mo_declare 205 = .ok (.iconst 1, 1) := by decide +kernel
theorem d_Mo_declare_206 : decode b_Mo_declare 206 = .ok (.iadd, 1) := by decide +kernel
theorem d_Mo_declare_207 : decode b_Mo_declare 207 = .ok (.putfield 205, 3) := by decide +kernel
theorem d_Mo_declare_210 : decode b_Mo_declare 210 = .ok (.aload_n 0, 1) := by decide +kernel
theorem d_Mo_declare_211 : decode b_Mo_declare 211 = .ok (.dup, 1) := by decide +kernel
theorem d_Mo_declare_212 : decode b_Mo_declare 212 = .ok (.getfield 190, 3) := by decide +kernel
theorem d_Mo_declare_215 : decode b_Mo_declare 215 = .ok (.iconst 1, 1) := by decide +kernel
theorem d_Mo_declare_216 : decode b_Mo_declare 216 = .ok (.iadd, 1) := by decide +kernel
theorem d_Mo_declare_217 : decode b_Mo_declare 217 = .ok (.putfield 190, 3) := by decide +kernel
theorem d_Mo_declare_220 : decode b_Mo_declare 220 = .ok (.return_, 1) := by decide +kernel
theorem d_Mo_find_0 : decode b_Mo_find 0 = .ok (.aload_n 0, 1) := by decide +kernel
theorem d_Mo_find_1 : decode b_Mo_find 1 = .ok (.getfield 208, 3) := by decide +kernel
theorem d_Mo_find_4 : decode b_Mo_find 4 = .ok (.istore_n 2, 1) := by decide +kernel
theorem d_Mo_find_5 : decode b_Mo_find 5 = .ok (.iload_n 2, 1) := by decide +kernel
theorem d_Mo_find_6 : decode b_Mo_find 6 = .ok (.ifCond .lt 57, 3) := by decide +kernel
theorem d_Mo_find_9 : decode b_Mo_find 9 = .ok (.iconst 0, 1) := by decide +kernel
theorem d_Mo_find_10 : decode b_Mo_find 10 = .ok (.istore_n 3, 1) := by decide +kernel
theorem d_Mo_find_11 : decode b_Mo_find 11 = .ok (.iload_n 3, 1) := by decide +kernel
theorem d_Mo_find_12 : decode b_Mo_find 12 = .ok (.aload_n 0, 1) := by decide +kernel
theorem d_Mo_find_13 : decode b_Mo_find 13 = .ok (.getfield 205, 3) := by decide +kernel
theorem d_Mo_find_16 : decode b_Mo_find 16 = .ok (.if_icmp .ge 37, 3) := by decide +kernel
theorem d_Mo_find_19 : decode b_Mo_find 19 = .ok (.aload_n 0, 1) := by decide +kernel
theorem d_Mo_find_20 : decode b_Mo_find 20 = .ok (.getfield 54, 3) := by decide +kernel
theorem d_Mo_find_23 : decode b_Mo_find 23 = .ok (.iload_n 3, 1) := by decide +kernel
theorem d_Mo_find_24 : decode b_Mo_find 24 = .ok (.iaload, 1) := by decide +kernel
theorem d_Mo_find_25 : decode b_Mo_find 25 = .ok (.iload_n 2, 1) := by decide +kernel
theorem d_Mo_find_26 : decode b_Mo_find 26 = .ok (.if_icmp .ne 21, 3) := by decide +kernel
theorem d_Mo_find_29 : decode b_Mo_find 29 = .ok (.aload_n 0, 1) := by decide +kernel
theorem d_Mo_find_30 : decode b_Mo_find 30 = .ok (.getfield 48, 3) := by decide +kernel
theorem d_Mo_find_33 : decode b_Mo_find 33 = .ok (.iload_n 3, 1) := by decide +kernel
theorem d_Mo_find_34 : decode b_Mo_find 34 = .ok (.laload, 1) := by decide +kernel
theorem d_Mo_find_35 : decode b_Mo_find 35 = .ok (.aload_n 0, 1) := by decide +kernel
theorem d_Mo_find_36 : decode b_Mo_find 36 = .ok (.getfield 16, 3) := by decide +kernel
theorem d_Mo_find_39 : decode b_Mo_find 39 = .ok (.iload_n 1, 1) := by decide +kernel
theorem d_Mo_find_40 : decode b_Mo_find 40 = .ok (.laload, 1) := by decide +kernel
theorem d_Mo_find_41 : decode b_Mo_find 41 = .ok (.lcmp, 1) := by decide +kernel
theorem d_Mo_find_42 : decode b_Mo_find 42 = .ok (.ifCond .ne 5, 3) := by decide +kernel
theorem d_Mo_find_45 : decode b_Mo_find 45 = .ok (.iload_n 3, 1) := by decide +kernel
theorem d_Mo_find_46 : decode b_Mo_find 46 = .ok (.ireturn, 1) := by decide +kernel
theorem d_Mo_find_47 : decode b_Mo_find 47 = .ok (.iinc 3 1, 3) := by decide +kernel
theorem d_Mo_find_50 : decode b_Mo_find 50 = .ok (.goto (-39), 3) := by decide +kernel
theorem d_Mo_find_53 : decode b_Mo_find 53 = .ok (.aload_n 0, 1) := by decide +kernel
theorem d_Mo_find_54 : decode b_Mo_find 54 = .ok (.getfield 63, 3) := by decide +kernel
theorem d_Mo_find_57 : decode b_Mo_find 57 = .ok (.iload_n 2, 1) := by decide +kernel
theorem d_Mo_find_58 : decode b_Mo_find 58 = .ok (.iaload, 1) := by decide +kernel
theorem d_Mo_find_59 : decode b_Mo_find 59 = .ok (.istore_n 2, 1) := by decide +kernel
theorem d_Mo_find_60 : decode b_Mo_find 60 = .ok (.goto (-55), 3) := by decide +kernel
theorem d_Mo_find_63 : decode b_Mo_find 63 = .ok (.iconst (-1), 1) := by decide +kernel
theorem d_Mo_find_64 : decode b_Mo_find 64 = .ok (.ireturn, 1) := by decide +kernel
theorem d_Mo_blockDepth_0 : decode b_Mo_blockDepth 0 = .ok (.iconst 0, 1) := by decide +kernel
theorem d_Mo_blockDepth_1 : decode b_Mo_blockDepth 1 = .ok (.istore_n 1, 1) := by decide +kernel
theorem d_Mo_blockDepth_2 : decode b_Mo_blockDepth 2 = .ok (.aload_n 0, 1) := by decide +kernel
theorem d_Mo_blockDepth_3 : decode b_Mo_blockDepth 3 = .ok (.getfield 208, 3) := by decide +kernel
theorem d_Mo_blockDepth_6 : decode b_Mo_blockDepth 6 = .ok (.istore_n 2, 1) := by decide +kernel
theorem d_Mo_blockDepth_7 : decode b_Mo_blockDepth 7 = .ok (.iload_n 2, 1) := by decide +kernel
theorem d_Mo_blockDepth_8 : decode b_Mo_blockDepth 8 = .ok (.ifCond .lt 16, 3) := by decide +kernel
theorem d_Mo_blockDepth_11 : decode b_Mo_blockDepth 11 = .ok (.iinc 1 1, 3) := by decide +kernel
theorem d_Mo_blockDepth_14 : decode b_Mo_blockDepth 14 = .ok (.aload_n 0, 1) := by decide +kernel
theorem d_Mo_blockDepth_15 : decode b_Mo_blockDepth 15 = .ok (.getfield 63, 3) := by decide +kernel
theorem d_Mo_blockDepth_18 : decode b_Mo_blockDepth 18 = .ok (.iload_n 2, 1) := by decide +kernel
theorem d_Mo_blockDepth_19 : decode b_Mo_blockDepth 19 = .ok (.iaload, 1) := by decide +kernel
theorem d_Mo_blockDepth_20 : decode b_Mo_blockDepth 20 = .ok (.istore_n 2, 1) := by decide +kernel
theorem d_Mo_blockDepth_21 : decode b_Mo_blockDepth 21 = .ok (.goto (-14), 3) := by decide +kernel
theorem d_Mo_blockDepth_24 : decode b_Mo_blockDepth 24 = .ok (.iload_n 1, 1) := by decide +kernel
theorem d_Mo_blockDepth_25 : decode b_Mo_blockDepth 25 = .ok (.ireturn, 1) := by decide +kernel
theorem d_Mo_enter_0 : decode b_Mo_enter 0 = .ok (.aload_n 0, 1) := by decide +kernel
theorem d_Mo_enter_1 : decode b_Mo_enter 1 = .ok (.aload_n 0, 1) := by decide +kernel
theorem d_Mo_enter_2 : decode b_Mo_enter 2 = .ok (.getfield 211, 3) := by decide +kernel
theorem d_Mo_enter_5 : decode b_Mo_enter 5 = .ok (.putfield 208, 3) := by decide +kernel
theorem d_Mo_enter_8 : decode b_Mo_enter 8 = .ok (.aload_n 0, 1) := by decide +kernel
theorem d_Mo_enter_9 : decode b_Mo_enter 9 = .ok (.dup, 1) := by decide +kernel
theorem d_Mo_enter_10 : decode b_Mo_enter 10 = .ok (.getfield 211, 3) := by decide +kernel
theorem d_Mo_enter_13 : decode b_Mo_enter 13 = .ok (.iconst 1, 1) := by decide +kernel
theorem d_Mo_enter_14 : decode b_Mo_enter 14 = .ok (.iadd, 1) := by decide +kernel
theorem d_Mo_enter_15 : decode b_Mo_enter 15 = .ok (.putfield 211, 3) := by decide +kernel
theorem d_Mo_enter_18 : decode b_Mo_enter 18 = .ok (.aload_n 0, 1) := by decide +kernel
theorem d_Mo_enter_19 : decode b_Mo_enter 19 = .ok (.getfield 63, 3) := by decide +kernel
theorem d_Mo_enter_22 : decode b_Mo_enter 22 = .ok (.aload_n 0, 1) := by decide +kernel
theorem d_Mo_enter_23 : decode b_Mo_enter 23 = .ok (.getfield 208, 3) := by decide +kernel
theorem d_Mo_enter_26 : decode b_Mo_enter 26 = .ok (.iload_n 1, 1) := by decide +kernel
theorem d_Mo_enter_27 : decode b_Mo_enter 27 = .ok (.iastore, 1) := by decide +kernel
theorem d_Mo_enter_28 : decode b_Mo_enter 28 = .ok (.return_, 1) := by decide +kernel
theorem d_Mo_parameter_0 : decode b_Mo_parameter 0 = .ok (.aload_n 0, 1) := by decide +kernel
theorem d_Mo_parameter_1 : decode b_Mo_parameter 1 = .ok (.bipush 64, 2) := by decide +kernel
theorem d_Mo_parameter_3 : decode b_Mo_parameter 3 = .ok (.invokevirtual 193, 3) := by decide +kernel
theorem d_Mo_parameter_6 : decode b_Mo_parameter 6 = .ok (.istore_n 2, 1) := by decide +kernel
theorem d_Mo_parameter_7 : decode b_Mo_parameter 7 = .ok (.aload_n 0, 1) := by decide +kernel
theorem d_Mo_parameter_8 : decode b_Mo_parameter 8 = .ok (.getfield 60, 3) := by decide +kernel
theorem d_Mo_parameter_11 : decode b_Mo_parameter 11 = .ok (.iload_n 1, 1) := by decide +kernel
theorem d_Mo_parameter_12 : decode b_Mo_parameter 12 = .ok (.iaload, 1) := by decide +kernel
theorem d_Mo_parameter_13 : decode b_Mo_parameter 13 = .ok (.iconst 3, 1) := by decide +kernel
theorem d_Mo_parameter_14 : decode b_Mo_parameter 14 = .ok (.if_icmp .ne 11, 3) := by decide +kernel
theorem d_Mo_parameter_17 : decode b_Mo_parameter 17 = .ok (.aload_n 0, 1) := by decide +kernel
theorem d_Mo_parameter_18 : decode b_Mo_parameter 18 = .ok (.aload_n 0, 1) := by decide +kernel
theorem d_Mo_parameter_19 : decode b_Mo_parameter 19 = .ok (.getfield 190, 3) := by decide +kernel
theorem d_Mo_parameter_22 : decode b_Mo_parameter 22 = .ok (.invokevirtual 196, 3) := by decide +kernel
theorem d_Mo_parameter_25 : decode b_Mo_parameter 25 = .ok (.aload_n 0, 1) := by decide +kernel
theorem d_Mo_parameter_26 : decode b_Mo_parameter 26 = .ok (.iload_n 2, 1) := by decide +kernel
theorem d_Mo_parameter_27 : decode b_Mo_parameter 27 = .ok (.ifCond .eq 7, 3) := by decide +kernel
theorem d_Mo_parameter_30 : decode b_Mo_parameter 30 = .ok (.iconst 2, 1) := by decide +kernel
theorem d_Mo_parameter_31 : decode b_Mo_parameter 31 = .ok (.goto 4, 3) := by decide +kernel
theorem d_Mo_parameter_34 : decode b_Mo_parameter 34 = .ok (.iconst 1, 1) := by decide +kernel
theorem d_Mo_parameter_35 : decode b_Mo_parameter 35 = .ok (.invokevirtual 214, 3) := by decide +kernel
theorem d_Mo_parameter_38 : decode b_Mo_parameter 38 = .ok (.aload_n 0, 1) := by decide +kernel
theorem d_Mo_parameter_39 : decode b_Mo_parameter 39 = .ok (.getfield 60, 3) := by decide +kernel
theorem d_Mo_parameter_42 : decode b_Mo_parameter 42 = .ok (.iload_n 1, 1) := by decide +kernel
theorem d_Mo_parameter_43 : decode b_Mo_parameter 43 = .ok (.dup2, 1) := by decide +kernel
theorem d_Mo_parameter_44 : decode b_Mo_parameter 44 = .ok (.iaload, 1) := by decide +kernel
theorem d_Mo_parameter_45 : decode b_Mo_parameter 45 = .ok (.iconst 1, 1) := by decide +kernel
theorem d_Mo_parameter_46 : decode b_Mo_parameter 46 = .ok (.iadd, 1) := by decide +kernel
theorem d_Mo_parameter_47 : decode b_Mo_parameter 47 = .ok (.iastore, 1) := by decide +kernel
theorem d_Mo_parameter_48 : decode b_Mo_parameter 48 = .ok (.return_, 1) := by decide +kernel
theorem d_Mo_procedure_0 : decode b_Mo_procedure 0 = .ok (.aload_n 0, 1) := by decide +kernel
theorem d_Mo_procedure_1 : decode b_Mo_procedure 1 = .ok (.invokevirtual 217, 3) := by decide +kernel
theorem d_Mo_procedure_4 : decode b_Mo_procedure 4 = .ok (.iconst 4, 1) := by decide +kernel
theorem d_Mo_procedure_5 : decode b_Mo_procedure 5 = .ok (.if_icmp .ne 14, 3) := by decide +kernel
theorem d_Mo_procedure_8 : decode b_Mo_procedure 8 = .ok (.aload_n 0, 1) := by decide +kernel
theorem d_Mo_procedure_9 : decode b_Mo_procedure 9 = .ok (.aload_n 0, 1) := by decide +kernel
theorem d_Mo_procedure_10 : decode b_Mo_procedure 10 = .ok (.getfield 190, 3) := by decide +kernel
theorem d_Mo_procedure_13 : decode b_Mo_procedure 13 = .ok (.iconst 1, 1) := by decide +kernel
theorem d_Mo_procedure_14 : decode b_Mo_procedure 14 = .ok (.isub, 1) := by decide +kernel
theorem d_Mo_procedure_15 : decode b_Mo_procedure 15 = .ok (.invokevirtual 196, 3) := by decide +kernel
theorem d_Mo_procedure_18 : decode b_Mo_procedure 18 = .ok (.return_, 1) := by decide +kernel
theorem d_Mo_procedure_19 : decode b_Mo_procedure 19 = .ok (.aload_n 0, 1) := by decide +kernel
theorem d_Mo_procedure_20 : decode b_Mo_procedure 20 = .ok (.getfield 205, 3) := by decide +kernel
theorem d_Mo_procedure_23 : decode b_Mo_procedure 23 = .ok (.istore_n 1, 1) := by decide +kernel
theorem d_Mo_procedure_24 : decode b_Mo_procedure 24 = .ok (.aload_n 0, 1) := by decide +kernel
theorem d_Mo_procedure_25 : decode b_Mo_procedure 25 = .ok (.iconst 3, 1) := by decide +kernel
theorem d_Mo_procedure_26 : decode b_Mo_procedure 26 = .ok (.invokevirtual 214, 3) := by decide +kernel
theorem d_Mo_procedure_29 : decode b_Mo_procedure 29 = .ok (.aload_n 0, 1) := by decide +kernel
theorem d_Mo_procedure_30 : decode b_Mo_procedure 30 = .ok (.getfield 187, 3) := by decide +kernel
theorem d_Mo_procedure_33 : decode b_Mo_procedure 33 = .ok (.ifCond .lt 4, 3) := by decide +kernel
theorem d_Mo_procedure_36 : decode b_Mo_procedure 36 = .ok (.return_, 1) := by decide +kernel
theorem d_Mo_procedure_37 : decode b_Mo_procedure 37 = .ok (.aload_n 0, 1) := by decide +kernel
theorem d_Mo_procedure_38 : decode b_Mo_procedure 38 = .ok (.aload_n 0, 1) := by decide +kernel
theorem d_Mo_procedure_39 : decode b_Mo_procedure 39 = .ok (.getfield 208, 3) := by decide +kernel
theorem d_Mo_procedure_42 : decode b_Mo_procedure 42 = .ok (.invokevirtual 221, 3) := by decide +kernel
theorem d_Mo_procedure_45 : decode b_Mo_procedure 45 = .ok (.aload_n 0, 1) := by decide +kernel
theorem d_Mo_procedure_46 : decode b_Mo_procedure 46 = .ok (.getfield 57, 3) := by decide +kernel
theorem d_Mo_procedure_49 : decode b_Mo_procedure 49 = .ok (.iload_n 1, 1) := by decide +kernel
theorem d_Mo_procedure_50 : decode b_Mo_procedure 50 = .ok (.aload_n 0, 1) := by decide +kernel
theorem d_Mo_procedure_51 : decode b_Mo_procedure 51 = .ok (.getfield 208, 3) := by decide +kernel
theorem d_Mo_procedure_54 : decode b_Mo_procedure 54 = .ok (.iastore, 1) := by decide +kernel
theorem d_Mo_procedure_55 : decode b_Mo_procedure 55 = .ok (.aload_n 0, 1) := by decide +kernel
theorem d_Mo_procedure_56 : decode b_Mo_procedure 56 = .ok (.bipush 40, 2) := by decide +kernel
theorem d_Mo_procedure_58 : decode b_Mo_procedure 58 = .ok (.invokevirtual 193, 3) := by decide +kernel
theorem d_Mo_procedure_61 : decode b_Mo_procedure 61 = .ok (.ifCond .eq 31, 3) := by decide +kernel
theorem d_Mo_procedure_64 : decode b_Mo_procedure 64 = .ok (.aload_n 0, 1) := by decide +kernel
theorem d_Mo_procedure_65 : decode b_Mo_procedure 65 = .ok (.iload_n 1, 1) := by decide +kernel
theorem d_Mo_procedure_66 : decode b_Mo_procedure 66 = .ok (.invokevirtual 224, 3) := by decide +kernel
theorem d_Mo_procedure_69 : decode b_Mo_procedure 69 = .ok (.aload_n 0, 1) := by decide +kernel
theorem d_Mo_procedure_70 : decode b_Mo_procedure 70 = .ok (.bipush 44, 2) := by decide +kernel
theorem d_Mo_procedure_72 : decode b_Mo_procedure 72 = .ok (.invokevirtual 193, 3) := by decide +kernel
theorem d_Mo_procedure_75 : decode b_Mo_procedure 75 = .ok (.ifCond .eq 11, 3) := by decide +kernel
theorem d_Mo_procedure_78 : decode b_Mo_procedure 78 = .ok (.aload_n 0, 1) := by decide +kernel
theorem d_Mo_procedure_79 : decode b_Mo_procedure 79 = .ok (.iload_n 1, 1) := by decide +kernel
theorem d_Mo_procedure_80 : decode b_Mo_procedure 80 = .ok (.invokevirtual 224, 3) := by decide +kernel
theorem d_Mo_procedure_83 : decode b_Mo_procedure 83 = .ok (.goto (-14), 3) := by decide +kernel
theorem d_Mo_procedure_86 : decode b_Mo_procedure 86 = .ok (.aload_n 0, 1) := by decide +kernel
theorem d_Mo_procedure_87 : decode b_Mo_procedure 87 = .ok (.bipush 41, 2) := by decide +kernel
theorem d_Mo_procedure_89 : decode b_Mo_procedure 89 = .ok (.invokevirtual 227, 3) := by decide +kernel
theorem d_Mo_procedure_92 : decode b_Mo_procedure 92 = .ok (.aload_n 0, 1) := by decide +kernel
theorem d_Mo_procedure_93 : decode b_Mo_procedure 93 = .ok (.bipush 59, 2) := by decide +kernel
theorem d_Mo_procedure_95 : decode b_Mo_procedure 95 = .ok (.invokevirtual 227, 3) := by decide +kernel
theorem d_Mo_procedure_98 : decode b_Mo_procedure 98 = .ok (.aload_n 0, 1) := by decide +kernel
theorem d_Mo_procedure_99 : decode b_Mo_procedure 99 = .ok (.invokevirtual 230, 3) := by decide +kernel
theorem d_Mo_procedure_102 : decode b_Mo_procedure 102 = .ok (.return_, 1) := by decide +kernel
theorem d_Mo_beginBlock_0 : decode b_Mo_beginBlock 0 = .ok (.aload_n 0, 1) := by decide +kernel
theorem d_Mo_beginBlock_1 : decode b_Mo_beginBlock 1 = .ok (.iconst 3, 1) := by decide +kernel
theorem d_Mo_beginBlock_2 : decode b_Mo_beginBlock 2 = .ok (.invokevirtual 193, 3) := by decide +kernel
theorem d_Mo_beginBlock_5 : decode b_Mo_beginBlock 5 = .ok (.ifCond .ne 4, 3) := by decide +kernel
theorem d_Mo_beginBlock_8 : decode b_Mo_beginBlock 8 = .ok (.return_, 1) := by decide +kernel
theorem d_Mo_beginBlock_9 : decode b_Mo_beginBlock 9 = .ok (.aload_n 0, 1) := by decide +kernel
theorem d_Mo_beginBlock_10 : decode b_Mo_beginBlock 10 = .ok (.iconst 0, 1) := by decide +kernel
theorem d_Mo_beginBlock_11 : decode b_Mo_beginBlock 11 = .ok (.invokevirtual 214, 3) := by decide +kernel
theorem d_Mo_beginBlock_14 : decode b_Mo_beginBlock 14 = .ok (.aload_n 0, 1) := by decide +kernel
theorem d_Mo_beginBlock_15 : decode b_Mo_beginBlock 15 = .ok (.bipush 44, 2) := by decide +kernel
theorem d_Mo_beginBlock_17 : decode b_Mo_beginBlock 17 = .ok (.invokevirtual 193, 3) := by decide +kernel
theorem d_Mo_beginBlock_20 : decode b_Mo_beginBlock 20 = .ok (.ifCond .eq 11, 3) := by decide +kernel
theorem d_Mo_beginBlock_23 : decode b_Mo_beginBlock 23 = .ok (.aload_n 0, 1) := by decide +kernel
theorem d_Mo_beginBlock_24 : decode b_Mo_beginBlock 24 = .ok (.iconst 0, 1) := by decide +kernel
theorem d_Mo_beginBlock_25 : decode b_Mo_beginBlock 25 = .ok (.invokevirtual 214, 3) := by decide +kernel
theorem d_Mo_beginBlock_28 : decode b_Mo_beginBlock 28 = .ok (.goto (-14), 3) := by decide +kernel
theorem d_Mo_beginBlock_31 : decode b_Mo_beginBlock 31 = .ok (.aload_n 0, 1) := by decide +kernel
theorem d_Mo_beginBlock_32 : decode b_Mo_beginBlock 32 = .ok (.bipush 59, 2) := by decide +kernel
theorem d_Mo_beginBlock_34 : decode b_Mo_beginBlock 34 = .ok (.invokevirtual 227, 3) := by decide +kernel
theorem d_Mo_beginBlock_37 : decode b_Mo_beginBlock 37 = .ok (.return_, 1) := by decide +kernel
theorem d_Mo_factor_0 : decode b_Mo_factor 0 = .ok (.aload_n 0, 1) := by decide +kernel
theorem d_Mo_factor_1 : decode b_Mo_factor 1 = .ok (.iconst 2, 1) := by decide +kernel
theorem d_Mo_factor_2 : decode b_Mo_factor 2 = .ok (.invokevirtual 193, 3) := by decide +kernel
theorem d_Mo_factor_5 : decode b_Mo_factor 5 = .ok (.ifCond .eq 4, 3) := by decide +kernel
theorem d_Mo_factor_8 : decode b_Mo_factor 8 = .ok (.return_, 1) := by decide +kernel
theorem d_Mo_factor_9 : decode b_Mo_factor 9 = .ok (.aload_n 0, 1) := by decide +kernel
theorem d_Mo_factor_10 : decode b_Mo_factor 10 = .ok (.getfield 187, 3) := by decide +kernel
theorem d_Mo_factor_13 : decode b_Mo_factor 13 = .ok (.ifCond .lt 4, 3) := by decide +kernel
theorem d_Mo_factor_16 : decode b_Mo_factor 16 = .ok (.return_, 1) := by decide +kernel
theorem d_Mo_factor_17 : decode b_Mo_factor 17 = .ok (.aload_n 0, 1) := by decide +kernel
theorem d_Mo_factor_18 : decode b_Mo_factor 18 = .ok (.getfield 13, 3) := by decide +kernel
theorem d_Mo_factor_21 : decode b_Mo_factor 21 = .ok (.aload_n 0, 1) := by decide +kernel
theorem d_Mo_factor_22 : decode b_Mo_factor 22 = .ok (.getfield 190, 3) := by decide +kernel
theorem d_Mo_factor_25 : decode b_Mo_factor 25 = .ok (.iaload, 1) := by decide +kernel
theorem d_Mo_factor_26 : decode b_Mo_factor 26 = .ok (.iconst 1, 1) := by decide +kernel
theorem d_Mo_factor_27 : decode b_Mo_factor 27 = .ok (.if_icmp .ne 14, 3) := by decide +kernel
theorem d_Mo_factor_30 : decode b_Mo_factor 30 = .ok (.aload_n 0, 1) := by decide +kernel
theorem d_Mo_factor_31 : decode b_Mo_factor 31 = .ok (.aload_n 0, 1) := by decide +kernel
theorem d_Mo_factor_32 : decode b_Mo_factor 32 = .ok (.getfield 190, 3) := by decide +kernel
theorem d_Mo_factor_35 : decode b_Mo_factor 35 = .ok (.invokevirtual 233, 3) := by decide +kernel
theorem d_Mo_factor_38 : decode b_Mo_factor 38 = .ok (.goto 4, 3) := by decide +kernel
theorem d_Mo_factor_41 : decode b_Mo_factor 41 = .ok (.iconst (-1), 1) := by decide +kernel
theorem d_Mo_factor_42 : decode b_Mo_factor 42 = .ok (.istore_n 1, 1) := by decide +kernel
theorem d_Mo_factor_43 : decode b_Mo_factor 43 = .ok (.iload_n 1, 1) := by decide +kernel
theorem d_Mo_factor_44 : decode b_Mo_factor 44 = .ok (.ifCond .lt 13, 3) := by decide +kernel
theorem d_Mo_factor_47 : decode b_Mo_factor 47 = .ok (.aload_n 0, 1) := by decide +kernel
theorem d_Mo_factor_48 : decode b_Mo_factor 48 = .ok (.getfield 51, 3) := by decide +kernel
theorem d_Mo_factor_51 : decode b_Mo_factor 51 = .ok (.iload_n 1, 1) := by decide +kernel
theorem d_Mo_factor_52 : decode b_Mo_factor 52 = .ok (.iaload, 1) := by decide +kernel
theorem d_Mo_factor_53 : decode b_Mo_factor 53 = .ok (.iconst 3, 1) := by decide +kernel
theorem d_Mo_factor_54 : decode b_Mo_factor 54 = .ok (.if_icmp .ne 12, 3) := by decide +kernel
theorem d_Mo_factor_57 : decode b_Mo_factor 57 = .ok (.aload_n 0, 1) := by decide +kernel
theorem d_Mo_factor_58 : decode b_Mo_factor 58 = .ok (.aload_n 0, 1) := by decide +kernel
theorem d_Mo_factor_59 : decode b_Mo_factor 59 = .ok (.getfield 190, 3) := by decide +kernel
theorem d_Mo_factor_62 : decode b_Mo_factor 62 = .ok (.invokevirtual 196, 3) := by decide +kernel
theorem d_Mo_factor_65 : decode b_Mo_factor 65 = .ok (.return_, 1) := by decide +kernel
theorem d_Mo_factor_66 : decode b_Mo_factor 66 = .ok (.aload_n 0, 1) := by decide +kernel
theorem d_Mo_factor_67 : decode b_Mo_factor 67 = .ok (.getfield 26, 3) := by decide +kernel
theorem d_Mo_factor_70 : decode b_Mo_factor 70 = .ok (.aload_n 0, 1) := by decide +kernel
theorem d_Mo_factor_71 : decode b_Mo_factor 71 = .ok (.getfield 190, 3) := by decide +kernel
theorem d_Mo_factor_74 : decode b_Mo_factor 74 = .ok (.iload_n 1, 1) := by decide +kernel
theorem d_Mo_factor_75 : decode b_Mo_factor 75 = .ok (.iastore, 1) := by decide +kernel
theorem d_Mo_factor_76 : decode b_Mo_factor 76 = .ok (.aload_n 0, 1) := by decide +kernel
theorem d_Mo_factor_77 : decode b_Mo_factor 77 = .ok (.dup, 1) := by decide +kernel
theorem d_Mo_factor_78 : decode b_Mo_factor 78 = .ok (.getfield 190, 3) := by decide +kernel
theorem d_Mo_factor_81 : decode b_Mo_factor 81 = .ok (.iconst 1, 1) := by decide +kernel
theorem d_Mo_factor_82 : decode b_Mo_factor 82 = .ok (.iadd, 1) := by decide +kernel
theorem d_Mo_factor_83 : decode b_Mo_factor 83 = .ok (.putfield 190, 3) := by decide +kernel
theorem d_Mo_factor_86 : decode b_Mo_factor 86 = .ok (.return_, 1) := by decide +kernel
theorem d_Mo_operator_0 : decode b_Mo_operator 0 = .ok (.iload_n 1, 1) := by decide +kernel
theorem d_Mo_operator_1 : decode b_Mo_operator 1 = .ok (.bipush 43, 2) := by decide +kernel
theorem d_Mo_operator_3 : decode b_Mo_operator 3 = .ok (.if_icmp .eq 27, 3) := by decide +kernel
theorem d_Mo_operator_6 : decode b_Mo_operator 6 = .ok (.iload_n 1, 1) := by decide +kernel
theorem d_Mo_operator_7 : decode b_Mo_operator 7 = .ok (.bipush 45, 2) := by decide +kernel
theorem d_Mo_operator_9 : decode b_Mo_operator 9 = .ok (.if_icmp .eq 21, 3) := by decide +kernel
theorem d_Mo_operator_12 : decode b_Mo_operator 12 = .ok (.iload_n 1, 1) := by decide +kernel
theorem d_Mo_operator_13 : decode b_Mo_operator 13 = .ok (.bipush 42, 2) := by decide +kernel
theorem d_Mo_operator_15 : decode b_Mo_operator 15 = .ok (.if_icmp .eq 15, 3) := by decide +kernel
theorem d_Mo_operator_18 : decode b_Mo_operator 18 = .ok (.iload_n 1, 1) := by decide +kernel
theorem d_Mo_operator_19 : decode b_Mo_operator 19 = .ok (.bipush 47, 2) := by decide +kernel
theorem d_Mo_operator_21 : decode b_Mo_operator 21 = .ok (.if_icmp .eq 9, 3) := by decide +kernel
theorem d_Mo_operator_24 : decode b_Mo_operator 24 = .ok (.iload_n 1, 1) := by decide +kernel
theorem d_Mo_operator_25 : decode b_Mo_operator 25 = .ok (.bipush 37, 2) := by decide +kernel
theorem d_Mo_operator_27 : decode b_Mo_operator 27 = .ok (.if_icmp .ne 7, 3) := by decide +kernel
theorem d_Mo_operator_30 : decode b_Mo_operator 30 = .ok (.iconst 1, 1) := by decide +kernel
end
section
theorem d_Mo_operator_31 : decode b_Mo_operator 31 = .ok (.goto 4, 3) := by decide +kernel
theorem d_Mo_operator_34 : decode b_Mo_operator 34 = .ok (.iconst 0, 1) := by decide +kernel
theorem d_Mo_operator_35 : decode b_Mo_operator 35 = .ok (.ireturn, 1) := by decide +kernel
theorem d_Mo_expression_0 : decode b_Mo_expression 0 = .ok (.iconst 0, 1) := by decide +kernel
theorem d_Mo_expression_1 : decode b_Mo_expression 1 = .ok (.istore_n 1, 1) := by decide +kernel
theorem d_Mo_expression_2 : decode b_Mo_expression 2 = .ok (.aload_n 0, 1) := by decide +kernel
theorem d_Mo_expression_3 : decode b_Mo_expression 3 = .ok (.bipush 45, 2) := by decide +kernel
theorem d_Mo_expression_5 : decode b_Mo_expression 5 = .ok (.invokevirtual 193, 3) := by decide +kernel
theorem d_Mo_expression_8 : decode b_Mo_expression 8 = .ok (.pop, 1) := by decide +kernel
theorem d_Mo_expression_9 : decode b_Mo_expression 9 = .ok (.iconst 1, 1) := by decide +kernel
theorem d_Mo_expression_10 : decode b_Mo_expression 10 = .ok (.istore_n 2, 1) := by decide +kernel
theorem d_Mo_expression_11 : decode b_Mo_expression 11 = .ok (.iload_n 2, 1) := by decide +kernel
theorem d_Mo_expression_12 : decode b_Mo_expression 12 = .ok (.ifCond .eq 127, 3) := by decide +kernel
theorem d_Mo_expression_15 : decode b_Mo_expression 15 = .ok (.aload_n 0, 1) := by decide +kernel
theorem d_Mo_expression_16 : decode b_Mo_expression 16 = .ok (.getfield 187, 3) := by decide +kernel
theorem d_Mo_expression_19 : decode b_Mo_expression 19 = .ok (.ifCond .ge 120, 3) := by decide +kernel
theorem d_Mo_expression_22 : decode b_Mo_expression 22 = .ok (.aload_n 0, 1) := by decide +kernel
theorem d_Mo_expression_23 : decode b_Mo_expression 23 = .ok (.getfield 13, 3) := by decide +kernel
theorem d_Mo_expression_26 : decode b_Mo_expression 26 = .ok (.aload_n 0, 1) := by decide +kernel
theorem d_Mo_expression_27 : decode b_Mo_expression 27 = .ok (.getfield 190, 3) := by decide +kernel
theorem d_Mo_expression_30 : decode b_Mo_expression 30 = .ok (.iaload, 1) := by decide +kernel
theorem d_Mo_expression_31 : decode b_Mo_expression 31 = .ok (.bipush 40, 2) := by decide +kernel
theorem d_Mo_expression_33 : decode b_Mo_expression 33 = .ok (.if_icmp .ne 37, 3) := by decide +kernel
theorem d_Mo_expression_36 : decode b_Mo_expression 36 = .ok (.iload_n 1, 1) := by decide +kernel
theorem d_Mo_expression_37 : decode b_Mo_expression 37 = .ok (.bipush 8, 2) := by decide +kernel
theorem d_Mo_expression_39 : decode b_Mo_expression 39 = .ok (.if_icmp .ne 11, 3) := by decide +kernel
theorem d_Mo_expression_42 : decode b_Mo_expression 42 = .ok (.aload_n 0, 1) := by decide +kernel
theorem d_Mo_expression_43 : decode b_Mo_expression 43 = .ok (.aload_n 0, 1) := by decide +kernel
theorem d_Mo_expression_44 : decode b_Mo_expression 44 = .ok (.getfield 190, 3) := by decide +kernel
theorem d_Mo_expression_47 : decode b_Mo_expression 47 = .ok (.invokevirtual 196, 3) := by decide +kernel
theorem d_Mo_expression_50 : decode b_Mo_expression 50 = .ok (.iinc 1 1, 3) := by decide +kernel
theorem d_Mo_expression_53 : decode b_Mo_expression 53 = .ok (.aload_n 0, 1) := by decide +kernel
theorem d_Mo_expression_54 : decode b_Mo_expression 54 = .ok (.bipush 40, 2) := by decide +kernel
theorem d_Mo_expression_56 : decode b_Mo_expression 56 = .ok (.invokevirtual 193, 3) := by decide +kernel
theorem d_Mo_expression_59 : decode b_Mo_expression 59 = .ok (.pop, 1) := by decide +kernel
theorem d_Mo_expression_60 : decode b_Mo_expression 60 = .ok (.aload_n 0, 1) := by decide +kernel
theorem d_Mo_expression_61 : decode b_Mo_expression 61 = .ok (.bipush 45, 2) := by decide +kernel
theorem d_Mo_expression_63 : decode b_Mo_expression 63 = .ok (.invokevirtual 193, 3) := by decide +kernel
theorem d_Mo_expression_66 : decode b_Mo_expression 66 = .ok (.pop, 1) := by decide +kernel
theorem d_Mo_expression_67 : decode b_Mo_expression 67 = .ok (.goto (-56), 3) := by decide +kernel
theorem d_Mo_expression_70 : decode b_Mo_expression 70 = .ok (.aload_n 0, 1) := by decide +kernel
theorem d_Mo_expression_71 : decode b_Mo_expression 71 = .ok (.invokevirtual 236, 3) := by decide +kernel
theorem d_Mo_expression_74 : decode b_Mo_expression 74 = .ok (.iload_n 1, 1) := by decide +kernel
theorem d_Mo_expression_75 : decode b_Mo_expression 75 = .ok (.ifCond .le 18, 3) := by decide +kernel
theorem d_Mo_expression_78 : decode b_Mo_expression 78 = .ok (.aload_n 0, 1) := by decide +kernel
theorem d_Mo_expression_79 : decode b_Mo_expression 79 = .ok (.bipush 41, 2) := by decide +kernel
theorem d_Mo_expression_81 : decode b_Mo_expression 81 = .ok (.invokevirtual 193, 3) := by decide +kernel
theorem d_Mo_expression_84 : decode b_Mo_expression 84 = .ok (.ifCond .eq 9, 3) := by decide +kernel
theorem d_Mo_expression_87 : decode b_Mo_expression 87 = .ok (.iinc 1 (-1), 3) := by decide +kernel
theorem d_Mo_expression_90 : decode b_Mo_expression 90 = .ok (.goto (-16), 3) := by decide +kernel
theorem d_Mo_expression_93 : decode b_Mo_expression 93 = .ok (.aload_n 0, 1) := by decide +kernel
theorem d_Mo_expression_94 : decode b_Mo_expression 94 = .ok (.getfield 187, 3) := by decide +kernel
theorem d_Mo_expression_97 : decode b_Mo_expression 97 = .ok (.ifCond .ge 23, 3) := by decide +kernel
theorem d_Mo_expression_100 : decode b_Mo_expression 100 = .ok (.aload_n 0, 1) := by decide +kernel
theorem d_Mo_expression_101 : decode b_Mo_expression 101 = .ok (.aload_n 0, 1) := by decide +kernel
theorem d_Mo_expression_102 : decode b_Mo_expression 102 = .ok (.getfield 13, 3) := by decide +kernel
theorem d_Mo_expression_105 : decode b_Mo_expression 105 = .ok (.aload_n 0, 1) := by decide +kernel
theorem d_Mo_expression_106 : decode b_Mo_expression 106 = .ok (.getfield 190, 3) := by decide +kernel
theorem d_Mo_expression_109 : decode b_Mo_expression 109 = .ok (.iaload, 1) := by decide +kernel
theorem d_Mo_expression_110 : decode b_Mo_expression 110 = .ok (.invokevirtual 239, 3) := by decide +kernel
theorem d_Mo_expression_113 : decode b_Mo_expression 113 = .ok (.ifCond .eq 7, 3) := by decide +kernel
theorem d_Mo_expression_116 : decode b_Mo_expression 116 = .ok (.iconst 1, 1) := by decide +kernel
theorem d_Mo_expression_117 : decode b_Mo_expression 117 = .ok (.goto 4, 3) := by decide +kernel
theorem d_Mo_expression_120 : decode b_Mo_expression 120 = .ok (.iconst 0, 1) := by decide +kernel
theorem d_Mo_expression_121 : decode b_Mo_expression 121 = .ok (.istore_n 2, 1) := by decide +kernel
theorem d_Mo_expression_122 : decode b_Mo_expression 122 = .ok (.iload_n 2, 1) := by decide +kernel
theorem d_Mo_expression_123 : decode b_Mo_expression 123 = .ok (.ifCond .eq (-112), 3) := by decide +kernel
theorem d_Mo_expression_126 : decode b_Mo_expression 126 = .ok (.aload_n 0, 1) := by decide +kernel
theorem d_Mo_expression_127 : decode b_Mo_expression 127 = .ok (.dup, 1) := by decide +kernel
theorem d_Mo_expression_128 : decode b_Mo_expression 128 = .ok (.getfield 190, 3) := by decide +kernel
theorem d_Mo_expression_131 : decode b_Mo_expression 131 = .ok (.iconst 1, 1) := by decide +kernel
theorem d_Mo_expression_132 : decode b_Mo_expression 132 = .ok (.iadd, 1) := by decide +kernel
theorem d_Mo_expression_133 : decode b_Mo_expression 133 = .ok (.putfield 190, 3) := by decide +kernel
theorem d_Mo_expression_136 : decode b_Mo_expression 136 = .ok (.goto (-125), 3) := by decide +kernel
theorem d_Mo_expression_139 : decode b_Mo_expression 139 = .ok (.iload_n 1, 1) := by decide +kernel
theorem d_Mo_expression_140 : decode b_Mo_expression 140 = .ok (.ifCond .le 11, 3) := by decide +kernel
theorem d_Mo_expression_143 : decode b_Mo_expression 143 = .ok (.aload_n 0, 1) := by decide +kernel
theorem d_Mo_expression_144 : decode b_Mo_expression 144 = .ok (.aload_n 0, 1) := by decide +kernel
theorem d_Mo_expression_145 : decode b_Mo_expression 145 = .ok (.getfield 190, 3) := by decide +kernel
theorem d_Mo_expression_148 : decode b_Mo_expression 148 = .ok (.invokevirtual 196, 3) := by decide +kernel
theorem d_Mo_expression_151 : decode b_Mo_expression 151 = .ok (.return_, 1) := by decide +kernel
theorem d_Mo_condition_0 : decode b_Mo_condition 0 = .ok (.aload_n 0, 1) := by decide +kernel
theorem d_Mo_condition_1 : decode b_Mo_condition 1 = .ok (.invokevirtual 242, 3) := by decide +kernel
theorem d_Mo_condition_4 : decode b_Mo_condition 4 = .ok (.aload_n 0, 1) := by decide +kernel
theorem d_Mo_condition_5 : decode b_Mo_condition 5 = .ok (.getfield 187, 3) := by decide +kernel
theorem d_Mo_condition_8 : decode b_Mo_condition 8 = .ok (.ifCond .ge 44, 3) := by decide +kernel
theorem d_Mo_condition_11 : decode b_Mo_condition 11 = .ok (.aload_n 0, 1) := by decide +kernel
theorem d_Mo_condition_12 : decode b_Mo_condition 12 = .ok (.getfield 13, 3) := by decide +kernel
theorem d_Mo_condition_15 : decode b_Mo_condition 15 = .ok (.aload_n 0, 1) := by decide +kernel
theorem d_Mo_condition_16 : decode b_Mo_condition 16 = .ok (.getfield 190, 3) := by decide +kernel
theorem d_Mo_condition_19 : decode b_Mo_condition 19 = .ok (.iaload, 1) := by decide +kernel
theorem d_Mo_condition_20 : decode b_Mo_condition 20 = .ok (.bipush 60, 2) := by decide +kernel
theorem d_Mo_condition_22 : decode b_Mo_condition 22 = .ok (.if_icmp .lt 30, 3) := by decide +kernel
theorem d_Mo_condition_25 : decode b_Mo_condition 25 = .ok (.aload_n 0, 1) := by decide +kernel
theorem d_Mo_condition_26 : decode b_Mo_condition 26 = .ok (.getfield 13, 3) := by decide +kernel
theorem d_Mo_condition_29 : decode b_Mo_condition 29 = .ok (.aload_n 0, 1) := by decide +kernel
theorem d_Mo_condition_30 : decode b_Mo_condition 30 = .ok (.getfield 190, 3) := by decide +kernel
theorem d_Mo_condition_33 : decode b_Mo_condition 33 = .ok (.iaload, 1) := by decide +kernel
theorem d_Mo_condition_34 : decode b_Mo_condition 34 = .ok (.bipush 62, 2) := by decide +kernel
theorem d_Mo_condition_36 : decode b_Mo_condition 36 = .ok (.if_icmp .gt 16, 3) := by decide +kernel
theorem d_Mo_condition_39 : decode b_Mo_condition 39 = .ok (.aload_n 0, 1) := by decide +kernel
theorem d_Mo_condition_40 : decode b_Mo_condition 40 = .ok (.dup, 1) := by decide +kernel
theorem d_Mo_condition_41 : decode b_Mo_condition 41 = .ok (.getfield 190, 3) := by decide +kernel
theorem d_Mo_condition_44 : decode b_Mo_condition 44 = .ok (.iconst 1, 1) := by decide +kernel
theorem d_Mo_condition_45 : decode b_Mo_condition 45 = .ok (.iadd, 1) := by decide +kernel
theorem d_Mo_condition_46 : decode b_Mo_condition 46 = .ok (.putfield 190, 3) := by decide +kernel
theorem d_Mo_condition_49 : decode b_Mo_condition 49 = .ok (.goto 11, 3) := by decide +kernel
theorem d_Mo_condition_52 : decode b_Mo_condition 52 = .ok (.aload_n 0, 1) := by decide +kernel
theorem d_Mo_condition_53 : decode b_Mo_condition 53 = .ok (.aload_n 0, 1) := by decide +kernel
theorem d_Mo_condition_54 : decode b_Mo_condition 54 = .ok (.getfield 190, 3) := by decide +kernel
theorem d_Mo_condition_57 : decode b_Mo_condition 57 = .ok (.invokevirtual 196, 3) := by decide +kernel
theorem d_Mo_condition_60 : decode b_Mo_condition 60 = .ok (.aload_n 0, 1) := by decide +kernel
theorem d_Mo_condition_61 : decode b_Mo_condition 61 = .ok (.invokevirtual 242, 3) := by decide +kernel
theorem d_Mo_condition_64 : decode b_Mo_condition 64 = .ok (.return_, 1) := by decide +kernel
theorem d_Mo_argument_0 : decode b_Mo_argument 0 = .ok (.aload_n 0, 1) := by decide +kernel
theorem d_Mo_argument_1 : decode b_Mo_argument 1 = .ok (.getfield 190, 3) := by decide +kernel
theorem d_Mo_argument_4 : decode b_Mo_argument 4 = .ok (.istore_n 3, 1) := by decide +kernel
theorem d_Mo_argument_5 : decode b_Mo_argument 5 = .ok (.aload_n 0, 1) := by decide +kernel
theorem d_Mo_argument_6 : decode b_Mo_argument 6 = .ok (.invokevirtual 242, 3) := by decide +kernel
theorem d_Mo_argument_9 : decode b_Mo_argument 9 = .ok (.aload_n 0, 1) := by decide +kernel
theorem d_Mo_argument_10 : decode b_Mo_argument 10 = .ok (.getfield 190, 3) := by decide +kernel
theorem d_Mo_argument_13 : decode b_Mo_argument 13 = .ok (.iload_n 3, 1) := by decide +kernel
theorem d_Mo_argument_14 : decode b_Mo_argument 14 = .ok (.iconst 1, 1) := by decide +kernel
theorem d_Mo_argument_15 : decode b_Mo_argument 15 = .ok (.iadd, 1) := by decide +kernel
theorem d_Mo_argument_16 : decode b_Mo_argument 16 = .ok (.if_icmp .ne 17, 3) := by decide +kernel
theorem d_Mo_argument_19 : decode b_Mo_argument 19 = .ok (.aload_n 0, 1) := by decide +kernel
theorem d_Mo_argument_20 : decode b_Mo_argument 20 = .ok (.getfield 13, 3) := by decide +kernel
theorem d_Mo_argument_23 : decode b_Mo_argument 23 = .ok (.iload_n 3, 1) := by decide +kernel
theorem d_Mo_argument_24 : decode b_Mo_argument 24 = .ok (.iaload, 1) := by decide +kernel
theorem d_Mo_argument_25 : decode b_Mo_argument 25 = .ok (.iconst 1, 1) := by decide +kernel
theorem d_Mo_argument_26 : decode b_Mo_argument 26 = .ok (.if_icmp .ne 7, 3) := by decide +kernel
theorem d_Mo_argument_29 : decode b_Mo_argument 29 = .ok (.iconst 1, 1) := by decide +kernel
theorem d_Mo_argument_30 : decode b_Mo_argument 30 = .ok (.goto 4, 3) := by decide +kernel
theorem d_Mo_argument_33 : decode b_Mo_argument 33 = .ok (.iconst 0, 1) := by decide +kernel
theorem d_Mo_argument_34 : decode b_Mo_argument 34 = .ok (.istore 4, 2) := by decide +kernel
theorem d_Mo_argument_36 : decode b_Mo_argument 36 = .ok (.aload_n 0, 1) := by decide +kernel
theorem d_Mo_argument_37 : decode b_Mo_argument 37 = .ok (.getfield 187, 3) := by decide +kernel
theorem d_Mo_argument_40 : decode b_Mo_argument 40 = .ok (.ifCond .ge 18, 3) := by decide +kernel
theorem d_Mo_argument_43 : decode b_Mo_argument 43 = .ok (.iload 4, 2) := by decide +kernel
theorem d_Mo_argument_45 : decode b_Mo_argument 45 = .ok (.ifCond .ne 13, 3) := by decide +kernel
theorem d_Mo_argument_48 : decode b_Mo_argument 48 = .ok (.iload_n 2, 1) := by decide +kernel
theorem d_Mo_argument_49 : decode b_Mo_argument 49 = .ok (.aload_n 0, 1) := by decide +kernel
theorem d_Mo_argument_50 : decode b_Mo_argument 50 = .ok (.getfield 60, 3) := by decide +kernel
theorem d_Mo_argument_53 : decode b_Mo_argument 53 = .ok (.iload_n 1, 1) := by decide +kernel
theorem d_Mo_argument_54 : decode b_Mo_argument 54 = .ok (.iaload, 1) := by decide +kernel
theorem d_Mo_argument_55 : decode b_Mo_argument 55 = .ok (.if_icmp .lt 4, 3) := by decide +kernel
theorem d_Mo_argument_58 : decode b_Mo_argument 58 = .ok (.return_, 1) := by decide +kernel
theorem d_Mo_argument_59 : decode b_Mo_argument 59 = .ok (.aload_n 0, 1) := by decide +kernel
theorem d_Mo_argument_60 : decode b_Mo_argument 60 = .ok (.getfield 51, 3) := by decide +kernel
theorem d_Mo_argument_63 : decode b_Mo_argument 63 = .ok (.aload_n 0, 1) := by decide +kernel
theorem d_Mo_argument_64 : decode b_Mo_argument 64 = .ok (.iload_n 1, 1) := by decide +kernel
theorem d_Mo_argument_65 : decode b_Mo_argument 65 = .ok (.iload_n 2, 1) := by decide +kernel
theorem d_Mo_argument_66 : decode b_Mo_argument 66 = .ok (.invokevirtual 245, 3) := by decide +kernel
theorem d_Mo_argument_69 : decode b_Mo_argument 69 = .ok (.iaload, 1) := by decide +kernel
theorem d_Mo_argument_70 : decode b_Mo_argument 70 = .ok (.iconst 2, 1) := by decide +kernel
theorem d_Mo_argument_71 : decode b_Mo_argument 71 = .ok (.if_icmp .ne 8, 3) := by decide +kernel
theorem d_Mo_argument_74 : decode b_Mo_argument 74 = .ok (.aload_n 0, 1) := by decide +kernel
theorem d_Mo_argument_75 : decode b_Mo_argument 75 = .ok (.iload_n 3, 1) := by decide +kernel
theorem d_Mo_argument_76 : decode b_Mo_argument 76 = .ok (.invokevirtual 196, 3) := by decide +kernel
theorem d_Mo_argument_79 : decode b_Mo_argument 79 = .ok (.return_, 1) := by decide +kernel
theorem d_Mo_parameterOf_0 : decode b_Mo_parameterOf 0 = .ok (.iload_n 1, 1) := by decide +kernel
theorem d_Mo_parameterOf_1 : decode b_Mo_parameterOf 1 = .ok (.iconst 1, 1) := by decide +kernel
theorem d_Mo_parameterOf_2 : decode b_Mo_parameterOf 2 = .ok (.iadd, 1) := by decide +kernel
theorem d_Mo_parameterOf_3 : decode b_Mo_parameterOf 3 = .ok (.iload_n 2, 1) := by decide +kernel
theorem d_Mo_parameterOf_4 : decode b_Mo_parameterOf 4 = .ok (.iadd, 1) := by decide +kernel
theorem d_Mo_parameterOf_5 : decode b_Mo_parameterOf 5 = .ok (.ireturn, 1) := by decide +kernel
theorem d_Mo_call_0 : decode b_Mo_call 0 = .ok (.iconst 0, 1) := by decide +kernel
theorem d_Mo_call_1 : decode b_Mo_call 1 = .ok (.istore_n 3, 1) := by decide +kernel
theorem d_Mo_call_2 : decode b_Mo_call 2 = .ok (.aload_n 0, 1) := by decide +kernel
theorem d_Mo_call_3 : decode b_Mo_call 3 = .ok (.bipush 40, 2) := by decide +kernel
theorem d_Mo_call_5 : decode b_Mo_call 5 = .ok (.invokevirtual 193, 3) := by decide +kernel
theorem d_Mo_call_8 : decode b_Mo_call 8 = .ok (.ifCond .eq 38, 3) := by decide +kernel
theorem d_Mo_call_11 : decode b_Mo_call 11 = .ok (.aload_n 0, 1) := by decide +kernel
theorem d_Mo_call_12 : decode b_Mo_call 12 = .ok (.iload_n 2, 1) := by decide +kernel
theorem d_Mo_call_13 : decode b_Mo_call 13 = .ok (.iconst 0, 1) := by decide +kernel
theorem d_Mo_call_14 : decode b_Mo_call 14 = .ok (.invokevirtual 249, 3) := by decide +kernel
theorem d_Mo_call_17 : decode b_Mo_call 17 = .ok (.iconst 1, 1) := by decide +kernel
theorem d_Mo_call_18 : decode b_Mo_call 18 = .ok (.istore_n 3, 1) := by decide +kernel
theorem d_Mo_call_19 : decode b_Mo_call 19 = .ok (.aload_n 0, 1) := by decide +kernel
theorem d_Mo_call_20 : decode b_Mo_call 20 = .ok (.bipush 44, 2) := by decide +kernel
theorem d_Mo_call_22 : decode b_Mo_call 22 = .ok (.invokevirtual 193, 3) := by decide +kernel
theorem d_Mo_call_25 : decode b_Mo_call 25 = .ok (.ifCond .eq 15, 3) := by decide +kernel
theorem d_Mo_call_28 : decode b_Mo_call 28 = .ok (.aload_n 0, 1) := by decide +kernel
theorem d_Mo_call_29 : decode b_Mo_call 29 = .ok (.iload_n 2, 1) := by decide +kernel
theorem d_Mo_call_30 : decode b_Mo_call 30 = .ok (.iload_n 3, 1) := by decide +kernel
theorem d_Mo_call_31 : decode b_Mo_call 31 = .ok (.invokevirtual 249, 3) := by decide +kernel
theorem d_Mo_call_34 : decode b_Mo_call 34 = .ok (.iinc 3 1, 3) := by decide +kernel
theorem d_Mo_call_37 : decode b_Mo_call 37 = .ok (.goto (-18), 3) := by decide +kernel
theorem d_Mo_call_40 : decode b_Mo_call 40 = .ok (.aload_n 0, 1) := by decide +kernel
theorem d_Mo_call_41 : decode b_Mo_call 41 = .ok (.bipush 41, 2) := by decide +kernel
theorem d_Mo_call_43 : decode b_Mo_call 43 = .ok (.invokevirtual 227, 3) := by decide +kernel
theorem d_Mo_call_46 : decode b_Mo_call 46 = .ok (.aload_n 0, 1) := by decide +kernel
theorem d_Mo_call_47 : decode b_Mo_call 47 = .ok (.getfield 187, 3) := by decide +kernel
theorem d_Mo_call_50 : decode b_Mo_call 50 = .ok (.ifCond .ge 18, 3) := by decide +kernel
theorem d_Mo_call_53 : decode b_Mo_call 53 = .ok (.iload_n 3, 1) := by decide +kernel
theorem d_Mo_call_54 : decode b_Mo_call 54 = .ok (.aload_n 0, 1) := by decide +kernel
theorem d_Mo_call_55 : decode b_Mo_call 55 = .ok (.getfield 60, 3) := by decide +kernel
theorem d_Mo_call_58 : decode b_Mo_call 58 = .ok (.iload_n 2, 1) := by decide +kernel
theorem d_Mo_call_59 : decode b_Mo_call 59 = .ok (.iaload, 1) := by decide +kernel
theorem d_Mo_call_60 : decode b_Mo_call 60 = .ok (.if_icmp .eq 8, 3) := by decide +kernel
theorem d_Mo_call_63 : decode b_Mo_call 63 = .ok (.aload_n 0, 1) := by decide +kernel
theorem d_Mo_call_64 : decode b_Mo_call 64 = .ok (.iload_n 1, 1) := by decide +kernel
theorem d_Mo_call_65 : decode b_Mo_call 65 = .ok (.invokevirtual 196, 3) := by decide +kernel
theorem d_Mo_call_68 : decode b_Mo_call 68 = .ok (.return_, 1) := by decide +kernel
theorem d_Mo_deeper_0 : decode b_Mo_deeper 0 = .ok (.aload_n 0, 1) := by decide +kernel
theorem d_Mo_deeper_1 : decode b_Mo_deeper 1 = .ok (.getfield 253, 3) := by decide +kernel
theorem d_Mo_deeper_4 : decode b_Mo_deeper 4 = .ok (.bipush 8, 2) := by decide +kernel
theorem d_Mo_deeper_6 : decode b_Mo_deeper 6 = .ok (.if_icmp .ne 9, 3) := by decide +kernel
theorem d_Mo_deeper_9 : decode b_Mo_deeper 9 = .ok (.aload_n 0, 1) := by decide +kernel
theorem d_Mo_deeper_10 : decode b_Mo_deeper 10 = .ok (.iload_n 2, 1) := by decide +kernel
theorem d_Mo_deeper_11 : decode b_Mo_deeper 11 = .ok (.invokevirtual 196, 3) := by decide +kernel
theorem d_Mo_deeper_14 : decode b_Mo_deeper 14 = .ok (.return_, 1) := by decide +kernel
theorem d_Mo_deeper_15 : decode b_Mo_deeper 15 = .ok (.aload_n 0, 1) := by decide +kernel
theorem d_Mo_deeper_16 : decode b_Mo_deeper 16 = .ok (.getfield 84, 3) := by decide +kernel
theorem d_Mo_deeper_19 : decode b_Mo_deeper 19 = .ok (.aload_n 0, 1) := by decide +kernel
theorem d_Mo_deeper_20 : decode b_Mo_deeper 20 = .ok (.getfield 253, 3) := by decide +kernel
theorem d_Mo_deeper_23 : decode b_Mo_deeper 23 = .ok (.iload_n 1, 1) := by decide +kernel
theorem d_Mo_deeper_24 : decode b_Mo_deeper 24 = .ok (.iastore, 1) := by decide +kernel
theorem d_Mo_deeper_25 : decode b_Mo_deeper 25 = .ok (.aload_n 0, 1) := by decide +kernel
theorem d_Mo_deeper_26 : decode b_Mo_deeper 26 = .ok (.getfield 87, 3) := by decide +kernel
theorem d_Mo_deeper_29 : decode b_Mo_deeper 29 = .ok (.aload_n 0, 1) := by decide +kernel
theorem d_Mo_deeper_30 : decode b_Mo_deeper 30 = .ok (.getfield 253, 3) := by decide +kernel
theorem d_Mo_deeper_33 : decode b_Mo_deeper 33 = .ok (.iload_n 2, 1) := by decide +kernel
theorem d_Mo_deeper_34 : decode b_Mo_deeper 34 = .ok (.iastore, 1) := by decide +kernel
theorem d_Mo_deeper_35 : decode b_Mo_deeper 35 = .ok (.aload_n 0, 1) := by decide +kernel
theorem d_Mo_deeper_36 : decode b_Mo_deeper 36 = .ok (.dup, 1) := by decide +kernel
theorem d_Mo_deeper_37 : decode b_Mo_deeper 37 = .ok (.getfield 253, 3) := by decide +kernel
theorem d_Mo_deeper_40 : decode b_Mo_deeper 40 = .ok (.iconst 1, 1) := by decide +kernel
theorem d_Mo_deeper_41 : decode b_Mo_deeper 41 = .ok (.iadd, 1) := by decide +kernel
theorem d_Mo_deeper_42 : decode b_Mo_deeper 42 = .ok (.putfield 253, 3) := by decide +kernel
theorem d_Mo_deeper_45 : decode b_Mo_deeper 45 = .ok (.return_, 1) := by decide +kernel
theorem d_Mo_beginStatement_0 : decode b_Mo_beginStatement 0 = .ok (.aload_n 0, 1) := by decide +kernel
theorem d_Mo_beginStatement_1 : decode b_Mo_beginStatement 1 = .ok (.getfield 190, 3) := by decide +kernel
theorem d_Mo_beginStatement_4 : decode b_Mo_beginStatement 4 = .ok (.istore_n 1, 1) := by decide +kernel
theorem d_Mo_beginStatement_5 : decode b_Mo_beginStatement 5 = .ok (.aload_n 0, 1) := by decide +kernel
theorem d_Mo_beginStatement_6 : decode b_Mo_beginStatement 6 = .ok (.getfield 13, 3) := by decide +kernel
theorem d_Mo_beginStatement_9 : decode b_Mo_beginStatement 9 = .ok (.iload_n 1, 1) := by decide +kernel
theorem d_Mo_beginStatement_10 : decode b_Mo_beginStatement 10 = .ok (.iaload, 1) := by decide +kernel
theorem d_Mo_beginStatement_11 : decode b_Mo_beginStatement 11 = .ok (.iconst 1, 1) := by decide +kernel
theorem d_Mo_beginStatement_12 : decode b_Mo_beginStatement 12 = .ok (.if_icmp .ne 102, 3) := by decide +kernel
theorem d_Mo_beginStatement_15 : decode b_Mo_beginStatement 15 = .ok (.aload_n 0, 1) := by decide +kernel
theorem d_Mo_beginStatement_16 : decode b_Mo_beginStatement 16 = .ok (.iload_n 1, 1) := by decide +kernel
theorem d_Mo_beginStatement_17 : decode b_Mo_beginStatement 17 = .ok (.invokevirtual 233, 3) := by decide +kernel
theorem d_Mo_beginStatement_20 : decode b_Mo_beginStatement 20 = .ok (.istore_n 2, 1) := by decide +kernel
theorem d_Mo_beginStatement_21 : decode b_Mo_beginStatement 21 = .ok (.aload_n 0, 1) := by decide +kernel
theorem d_Mo_beginStatement_22 : decode b_Mo_beginStatement 22 = .ok (.getfield 13, 3) := by decide +kernel
theorem d_Mo_beginStatement_25 : decode b_Mo_beginStatement 25 = .ok (.iload_n 1, 1) := by decide +kernel
theorem d_Mo_beginStatement_26 : decode b_Mo_beginStatement 26 = .ok (.iconst 1, 1) := by decide +kernel
theorem d_Mo_beginStatement_27 : decode b_Mo_beginStatement 27 = .ok (.iadd, 1) := by decide +kernel
theorem d_Mo_beginStatement_28 : decode b_Mo_beginStatement 28 = .ok (.iaload, 1) := by decide +kernel
theorem d_Mo_beginStatement_29 : decode b_Mo_beginStatement 29 = .ok (.bipush 13, 2) := by decide +kernel
theorem d_Mo_beginStatement_31 : decode b_Mo_beginStatement 31 = .ok (.if_icmp .ne 7, 3) := by decide +kernel
theorem d_Mo_beginStatement_34 : decode b_Mo_beginStatement 34 = .ok (.iconst 1, 1) := by decide +kernel
theorem d_Mo_beginStatement_35 : decode b_Mo_beginStatement 35 = .ok (.goto 4, 3) := by decide +kernel
theorem d_Mo_beginStatement_38 : decode b_Mo_beginStatement 38 = .ok (.iconst 0, 1) := by decide +kernel
theorem d_Mo_beginStatement_39 : decode b_Mo_beginStatement 39 = .ok (.istore_n 3, 1) := by decide +kernel
theorem d_Mo_beginStatement_40 : decode b_Mo_beginStatement 40 = .ok (.iload_n 2, 1) := by decide +kernel
theorem d_Mo_beginStatement_41 : decode b_Mo_beginStatement 41 = .ok (.ifCond .lt 22, 3) := by decide +kernel
theorem d_Mo_beginStatement_44 : decode b_Mo_beginStatement 44 = .ok (.aload_n 0, 1) := by decide +kernel
theorem d_Mo_beginStatement_45 : decode b_Mo_beginStatement 45 = .ok (.getfield 51, 3) := by decide +kernel
theorem d_Mo_beginStatement_48 : decode b_Mo_beginStatement 48 = .ok (.iload_n 2, 1) := by decide +kernel
theorem d_Mo_beginStatement_49 : decode b_Mo_beginStatement 49 = .ok (.iaload, 1) := by decide +kernel
theorem d_Mo_beginStatement_50 : decode b_Mo_beginStatement 50 = .ok (.iconst 3, 1) := by decide +kernel
theorem d_Mo_beginStatement_51 : decode b_Mo_beginStatement 51 = .ok (.if_icmp .ne 7, 3) := by decide +kernel
theorem d_Mo_beginStatement_54 : decode b_Mo_beginStatement 54 = .ok (.iconst 1, 1) := by decide +kernel
theorem d_Mo_beginStatement_55 : decode b_Mo_beginStatement 55 = .ok (.goto 4, 3) := by decide +kernel
theorem d_Mo_beginStatement_58 : decode b_Mo_beginStatement 58 = .ok (.iconst 0, 1) := by decide +kernel
theorem d_Mo_beginStatement_59 : decode b_Mo_beginStatement 59 = .ok (.iload_n 3, 1) := by decide +kernel
theorem d_Mo_beginStatement_60 : decode b_Mo_beginStatement 60 = .ok (.if_icmp .ne 10, 3) := by decide +kernel
theorem d_Mo_beginStatement_63 : decode b_Mo_beginStatement 63 = .ok (.aload_n 0, 1) := by decide +kernel
theorem d_Mo_beginStatement_64 : decode b_Mo_beginStatement 64 = .ok (.iload_n 1, 1) := by decide +kernel
theorem d_Mo_beginStatement_65 : decode b_Mo_beginStatement 65 = .ok (.invokevirtual 196, 3) := by decide +kernel
theorem d_Mo_beginStatement_68 : decode b_Mo_beginStatement 68 = .ok (.iconst 1, 1) := by decide +kernel
theorem d_Mo_beginStatement_69 : decode b_Mo_beginStatement 69 = .ok (.ireturn, 1) := by decide +kernel
theorem d_Mo_beginStatement_70 : decode b_Mo_beginStatement 70 = .ok (.aload_n 0, 1) := by decide +kernel
theorem d_Mo_beginStatement_71 : decode b_Mo_beginStatement 71 = .ok (.getfield 26, 3) := by decide +kernel
theorem d_Mo_beginStatement_74 : decode b_Mo_beginStatement 74 = .ok (.iload_n 1, 1) := by decide +kernel
theorem d_Mo_beginStatement_75 : decode b_Mo_beginStatement 75 = .ok (.iload_n 2, 1) := by decide +kernel
theorem d_Mo_beginStatement_76 : decode b_Mo_beginStatement 76 = .ok (.iastore, 1) := by decide +kernel
theorem d_Mo_beginStatement_77 : decode b_Mo_beginStatement 77 = .ok (.aload_n 0, 1) := by decide +kernel
theorem d_Mo_beginStatement_78 : decode b_Mo_beginStatement 78 = .ok (.dup, 1) := by decide +kernel
theorem d_Mo_beginStatement_79 : decode b_Mo_beginStatement 79 = .ok (.getfield 190, 3) := by decide +kernel
theorem d_Mo_beginStatement_82 : decode b_Mo_beginStatement 82 = .ok (.iload_n 3, 1) := by decide +kernel
theorem d_Mo_beginStatement_83 : decode b_Mo_beginStatement 83 = .ok (.ifCond .eq 7, 3) := by decide +kernel
theorem d_Mo_beginStatement_86 : decode b_Mo_beginStatement 86 = .ok (.iconst 2, 1) := by decide +kernel
theorem d_Mo_beginStatement_87 : decode b_Mo_beginStatement 87 = .ok (.goto 4, 3) := by decide +kernel
theorem d_Mo_beginStatement_90 : decode b_Mo_beginStatement 90 = .ok (.iconst 1, 1) := by decide +kernel
theorem d_Mo_beginStatement_91 : decode b_Mo_beginStatement 91 = .ok (.iadd, 1) := by decide +kernel
theorem d_Mo_beginStatement_92 : decode b_Mo_beginStatement 92 = .ok (.putfield 190, 3) := by decide +kernel
theorem d_Mo_beginStatement_95 : decode b_Mo_beginStatement 95 = .ok (.iload_n 3, 1) := by decide +kernel
theorem d_Mo_beginStatement_96 : decode b_Mo_beginStatement 96 = .ok (.ifCond .eq 10, 3) := by decide +kernel
theorem d_Mo_beginStatement_99 : decode b_Mo_beginStatement 99 = .ok (.aload_n 0, 1) := by decide +kernel
theorem d_Mo_beginStatement_100 : decode b_Mo_beginStatement 100 = .ok (.invokevirtual 242, 3) := by decide +kernel
theorem d_Mo_beginStatement_103 : decode b_Mo_beginStatement 103 = .ok (.goto 9, 3) := by decide +kernel
theorem d_Mo_beginStatement_106 : decode b_Mo_beginStatement 106 = .ok (.aload_n 0, 1) := by decide +kernel
theorem d_Mo_beginStatement_107 : decode b_Mo_beginStatement 107 = .ok (.iload_n 1, 1) := by decide +kernel
theorem d_Mo_beginStatement_108 : decode b_Mo_beginStatement 108 = .ok (.iload_n 2, 1) := by decide +kernel
theorem d_Mo_beginStatement_109 : decode b_Mo_beginStatement 109 = .ok (.invokevirtual 256, 3) := by decide +kernel
theorem d_Mo_beginStatement_112 : decode b_Mo_beginStatement 112 = .ok (.iconst 1, 1) := by decide +kernel
theorem d_Mo_beginStatement_113 : decode b_Mo_beginStatement 113 = .ok (.ireturn, 1) := by decide +kernel
theorem d_Mo_beginStatement_114 : decode b_Mo_beginStatement 114 = .ok (.aload_n 0, 1) := by decide +kernel
theorem d_Mo_beginStatement_115 : decode b_Mo_beginStatement 115 = .ok (.bipush 12, 2) := by decide +kernel
theorem d_Mo_beginStatement_117 : decode b_Mo_beginStatement 117 = .ok (.invokevirtual 193, 3) := by decide +kernel
theorem d_Mo_beginStatement_120 : decode b_Mo_beginStatement 120 = .ok (.ifCond .eq 21, 3) := by decide +kernel
theorem d_Mo_beginStatement_123 : decode b_Mo_beginStatement 123 = .ok (.aload_n 0, 1) := by decide +kernel
theorem d_Mo_beginStatement_124 : decode b_Mo_beginStatement 124 = .ok (.bipush 40, 2) := by decide +kernel
theorem d_Mo_beginStatement_126 : decode b_Mo_beginStatement 126 = .ok (.invokevirtual 227, 3) := by decide +kernel
theorem d_Mo_beginStatement_129 : decode b_Mo_beginStatement 129 = .ok (.aload_n 0, 1) := by decide +kernel
theorem d_Mo_beginStatement_130 : decode b_Mo_beginStatement 130 = .ok (.invokevirtual 242, 3) := by decide +kernel
theorem d_Mo_beginStatement_133 : decode b_Mo_beginStatement 133 = .ok (.aload_n 0, 1) := by decide +kernel
theorem d_Mo_beginStatement_134 : decode b_Mo_beginStatement 134 = .ok (.bipush 41, 2) := by decide +kernel
theorem d_Mo_beginStatement_136 : decode b_Mo_beginStatement 136 = .ok (.invokevirtual 227, 3) := by decide +kernel
theorem d_Mo_beginStatement_139 : decode b_Mo_beginStatement 139 = .ok (.iconst 1, 1) := by decide +kernel
theorem d_Mo_beginStatement_140 : decode b_Mo_beginStatement 140 = .ok (.ireturn, 1) := by decide +kernel
theorem d_Mo_beginStatement_141 : decode b_Mo_beginStatement 141 = .ok (.aload_n 0, 1) := by decide +kernel
theorem d_Mo_beginStatement_142 : decode b_Mo_beginStatement 142 = .ok (.getfield 13, 3) := by decide +kernel
theorem d_Mo_beginStatement_145 : decode b_Mo_beginStatement 145 = .ok (.iload_n 1, 1) := by decide +kernel
theorem d_Mo_beginStatement_146 : decode b_Mo_beginStatement 146 = .ok (.iaload, 1) := by decide +kernel
theorem d_Mo_beginStatement_147 : decode b_Mo_beginStatement 147 = .ok (.iconst 5, 1) := by decide +kernel
theorem d_Mo_beginStatement_148 : decode b_Mo_beginStatement 148 = .ok (.if_icmp .eq 27, 3) := by decide +kernel
theorem d_Mo_beginStatement_151 : decode b_Mo_beginStatement 151 = .ok (.aload_n 0, 1) := by decide +kernel
theorem d_Mo_beginStatement_152 : decode b_Mo_beginStatement 152 = .ok (.getfield 13, 3) := by decide +kernel
theorem d_Mo_beginStatement_155 : decode b_Mo_beginStatement 155 = .ok (.iload_n 1, 1) := by decide +kernel
theorem d_Mo_beginStatement_156 : decode b_Mo_beginStatement 156 = .ok (.iaload, 1) := by decide +kernel
theorem d_Mo_beginStatement_157 : decode b_Mo_beginStatement 157 = .ok (.bipush 7, 2) := by decide +kernel
theorem d_Mo_beginStatement_159 : decode b_Mo_beginStatement 159 = .ok (.if_icmp .eq 16, 3) := by decide +kernel
theorem d_Mo_beginStatement_162 : decode b_Mo_beginStatement 162 = .ok (.aload_n 0, 1) := by decide +kernel
theorem d_Mo_beginStatement_163 : decode b_Mo_beginStatement 163 = .ok (.getfield 13, 3) := by decide +kernel
theorem d_Mo_beginStatement_166 : decode b_Mo_beginStatement 166 = .ok (.iload_n 1, 1) := by decide +kernel
theorem d_Mo_beginStatement_167 : decode b_Mo_beginStatement 167 = .ok (.iaload, 1) := by decide +kernel
theorem d_Mo_beginStatement_168 : decode b_Mo_beginStatement 168 = .ok (.bipush 10, 2) := by decide +kernel
theorem d_Mo_beginStatement_170 : decode b_Mo_beginStatement 170 = .ok (.if_icmp .eq 5, 3) := by decide +kernel
theorem d_Mo_beginStatement_173 : decode b_Mo_beginStatement 173 = .ok (.iconst 1, 1) := by decide +kernel
theorem d_Mo_beginStatement_174 : decode b_Mo_beginStatement 174 = .ok (.ireturn, 1) := by decide +kernel
theorem d_Mo_beginStatement_175 : decode b_Mo_beginStatement 175 = .ok (.aload_n 0, 1) := by decide +kernel
theorem d_Mo_beginStatement_176 : decode b_Mo_beginStatement 176 = .ok (.aload_n 0, 1) := by decide +kernel
theorem d_Mo_beginStatement_177 : decode b_Mo_beginStatement 177 = .ok (.getfield 13, 3) := by decide +kernel
theorem d_Mo_beginStatement_180 : decode b_Mo_beginStatement 180 = .ok (.iload_n 1, 1) := by decide +kernel
theorem d_Mo_beginStatement_181 : decode b_Mo_beginStatement 181 = .ok (.iaload, 1) := by decide +kernel
theorem d_Mo_beginStatement_182 : decode b_Mo_beginStatement 182 = .ok (.iload_n 1, 1) := by decide +kernel
theorem d_Mo_beginStatement_183 : decode b_Mo_beginStatement 183 = .ok (.invokevirtual 259, 3) := by decide +kernel
theorem d_Mo_beginStatement_186 : decode b_Mo_beginStatement 186 = .ok (.aload_n 0, 1) := by decide +kernel
theorem d_Mo_beginStatement_187 : decode b_Mo_beginStatement 187 = .ok (.getfield 187, 3) := by decide +kernel
theorem d_Mo_beginStatement_190 : decode b_Mo_beginStatement 190 = .ok (.ifCond .lt 5, 3) := by decide +kernel
theorem d_Mo_beginStatement_193 : decode b_Mo_beginStatement 193 = .ok (.iconst 1, 1) := by decide +kernel
theorem d_Mo_beginStatement_194 : decode b_Mo_beginStatement 194 = .ok (.ireturn, 1) := by decide +kernel
theorem d_Mo_beginStatement_195 : decode b_Mo_beginStatement 195 = .ok (.aload_n 0, 1) := by decide +kernel
theorem d_Mo_beginStatement_196 : decode b_Mo_beginStatement 196 = .ok (.dup, 1) := by decide +kernel
theorem d_Mo_beginStatement_197 : decode b_Mo_beginStatement 197 = .ok (.getfield 190, 3) := by decide +kernel
theorem d_Mo_beginStatement_200 : decode b_Mo_beginStatement 200 = .ok (.iconst 1, 1) := by decide +kernel
theorem d_Mo_beginStatement_201 : decode b_Mo_beginStatement 201 = .ok (.iadd, 1) := by decide +kernel
theorem d_Mo_beginStatement_202 : decode b_Mo_beginStatement 202 = .ok (.putfield 190, 3) := by decide +kernel
theorem d_Mo_beginStatement_205 : decode b_Mo_beginStatement 205 = .ok (.aload_n 0, 1) := by decide +kernel
theorem d_Mo_beginStatement_206 : decode b_Mo_beginStatement 206 = .ok (.getfield 13, 3) := by decide +kernel
theorem d_Mo_beginStatement_209 : decode b_Mo_beginStatement 209 = .ok (.iload_n 1, 1) := by decide +kernel
theorem d_Mo_beginStatement_210 : decode b_Mo_beginStatement 210 = .ok (.iaload, 1) := by decide +kernel
theorem d_Mo_beginStatement_211 : decode b_Mo_beginStatement 211 = .ok (.iconst 5, 1) := by decide +kernel
theorem d_Mo_beginStatement_212 : decode b_Mo_beginStatement 212 = .ok (.if_icmp .eq 7, 3) := by decide +kernel
theorem d_Mo_beginStatement_215 : decode b_Mo_beginStatement 215 = .ok (.aload_n 0, 1) := by decide +kernel
theorem d_Mo_beginStatement_216 : decode b_Mo_beginStatement 216 = .ok (.invokevirtual 262, 3) := by decide +kernel
theorem d_Mo_beginStatement_219 : decode b_Mo_beginStatement 219 = .ok (.aload_n 0, 1) := by decide +kernel
theorem d_Mo_beginStatement_220 : decode b_Mo_beginStatement 220 = .ok (.getfield 13, 3) := by decide +kernel
theorem d_Mo_beginStatement_223 : decode b_Mo_beginStatement 223 = .ok (.iload_n 1, 1) := by decide +kernel
theorem d_Mo_beginStatement_224 : decode b_Mo_beginStatement 224 = .ok (.iaload, 1) := by decide +kernel
theorem d_Mo_beginStatement_225 : decode b_Mo_beginStatement 225 = .ok (.bipush 7, 2) := by decide +kernel
theorem d_Mo_beginStatement_227 : decode b_Mo_beginStatement 227 = .ok (.if_icmp .ne 9, 3) := by decide +kernel
theorem d_Mo_beginStatement_230 : decode b_Mo_beginStatement 230 = .ok (.aload_n 0, 1) := by decide +kernel
theorem d_Mo_beginStatement_231 : decode b_Mo_beginStatement 231 = .ok (.bipush 8, 2) := by decide +kernel
theorem d_Mo_beginStatement_233 : decode b_Mo_beginStatement 233 = .ok (.invokevirtual 227, 3) := by decide +kernel
theorem d_Mo_beginStatement_236 : decode b_Mo_beginStatement 236 = .ok (.aload_n 0, 1) := by decide +kernel
theorem d_Mo_beginStatement_237 : decode b_Mo_beginStatement 237 = .ok (.getfield 13, 3) := by decide +kernel
theorem d_Mo_beginStatement_240 : decode b_Mo_beginStatement 240 = .ok (.iload_n 1, 1) := by decide +kernel
theorem d_Mo_beginStatement_241 : decode b_Mo_beginStatement 241 = .ok (.iaload, 1) := by decide +kernel
theorem d_Mo_beginStatement_242 : decode b_Mo_beginStatement 242 = .ok (.bipush 10, 2) := by decide +kernel
theorem d_Mo_beginStatement_244 : decode b_Mo_beginStatement 244 = .ok (.if_icmp .ne 9, 3) := by decide +kernel
theorem d_Mo_beginStatement_247 : decode b_Mo_beginStatement 247 = .ok (.aload_n 0, 1) := by decide +kernel
theorem d_Mo_beginStatement_248 : decode b_Mo_beginStatement 248 = .ok (.bipush 11, 2) := by decide +kernel
theorem d_Mo_beginStatement_250 : decode b_Mo_beginStatement 250 = .ok (.invokevirtual 227, 3) := by decide +kernel
theorem d_Mo_beginStatement_253 : decode b_Mo_beginStatement 253 = .ok (.iconst 0, 1) := by decide +kernel
theorem d_Mo_beginStatement_254 : decode b_Mo_beginStatement 254 = .ok (.ireturn, 1) := by decide +kernel
theorem d_Mo_behindStatement_0 : decode b_Mo_behindStatement 0 = .ok (.aload_n 0, 1) := by decide +kernel
theorem d_Mo_behindStatement_1 : decode b_Mo_behindStatement 1 = .ok (.getfield 253, 3) := by decide +kernel
theorem d_Mo_behindStatement_4 : decode b_Mo_behindStatement 4 = .ok (.ifCond .le 149, 3) := by decide +kernel
theorem d_Mo_behindStatement_7 : decode b_Mo_behindStatement 7 = .ok (.aload_n 0, 1) := by decide +kernel
theorem d_Mo_behindStatement_8 : decode b_Mo_behindStatement 8 = .ok (.getfield 187, 3) := by decide +kernel
theorem d_Mo_behindStatement_11 : decode b_Mo_behindStatement 11 = .ok (.ifCond .ge 142, 3) := by decide +kernel
theorem d_Mo_behindStatement_14 : decode b_Mo_behindStatement 14 = .ok (.aload_n 0, 1) := by decide +kernel
theorem d_Mo_behindStatement_15 : decode b_Mo_behindStatement 15 = .ok (.getfield 84, 3) := by decide +kernel
theorem d_Mo_behindStatement_18 : decode b_Mo_behindStatement 18 = .ok (.aload_n 0, 1) := by decide +kernel
theorem d_Mo_behindStatement_19 : decode b_Mo_behindStatement 19 = .ok (.getfield 253, 3) := by decide +kernel
theorem d_Mo_behindStatement_22 : decode b_Mo_behindStatement 22 = .ok (.iconst 1, 1) := by decide +kernel
theorem d_Mo_behindStatement_23 : decode b_Mo_behindStatement 23 = .ok (.isub, 1) := by decide +kernel
theorem d_Mo_behindStatement_24 : decode b_Mo_behindStatement 24 = .ok (.iaload, 1) := by decide +kernel
theorem d_Mo_behindStatement_25 : decode b_Mo_behindStatement 25 = .ok (.istore_n 1, 1) := by decide +kernel
theorem d_Mo_behindStatement_26 : decode b_Mo_behindStatement 26 = .ok (.aload_n 0, 1) := by decide +kernel
theorem d_Mo_behindStatement_27 : decode b_Mo_behindStatement 27 = .ok (.getfield 87, 3) := by decide +kernel
theorem d_Mo_behindStatement_30 : decode b_Mo_behindStatement 30 = .ok (.aload_n 0, 1) := by decide +kernel
theorem d_Mo_behindStatement_31 : decode b_Mo_behindStatement 31 = .ok (.getfield 253, 3) := by decide +kernel
theorem d_Mo_behindStatement_34 : decode b_Mo_behindStatement 34 = .ok (.iconst 1, 1) := by decide +kernel
theorem d_Mo_behindStatement_35 : decode b_Mo_behindStatement 35 = .ok (.isub, 1) := by decide +kernel
theorem d_Mo_behindStatement_36 : decode b_Mo_behindStatement 36 = .ok (.iaload, 1) := by decide +kernel
theorem d_Mo_behindStatement_37 : decode b_Mo_behindStatement 37 = .ok (.istore_n 2, 1) := by decide +kernel
theorem d_Mo_behindStatement_38 : decode b_Mo_behindStatement 38 = .ok (.iload_n 1, 1) := by decide +kernel
theorem d_Mo_behindStatement_39 : decode b_Mo_behindStatement 39 = .ok (.bipush 7, 2) := by decide +kernel
theorem d_Mo_behindStatement_41 : decode b_Mo_behindStatement 41 = .ok (.if_icmp .ne 67, 3) := by decide +kernel
theorem d_Mo_behindStatement_44 : decode b_Mo_behindStatement 44 = .ok (.aload_n 0, 1) := by decide +kernel
theorem d_Mo_behindStatement_45 : decode b_Mo_behindStatement 45 = .ok (.getfield 13, 3) := by decide +kernel
theorem d_Mo_behindStatement_48 : decode b_Mo_behindStatement 48 = .ok (.aload_n 0, 1) := by decide +kernel
theorem d_Mo_behindStatement_49 : decode b_Mo_behindStatement 49 = .ok (.getfield 190, 3) := by decide +kernel
theorem d_Mo_behindStatement_52 : decode b_Mo_behindStatement 52 = .ok (.iaload, 1) := by decide +kernel
theorem d_Mo_behindStatement_53 : decode b_Mo_behindStatement 53 = .ok (.bipush 9, 2) := by decide +kernel
theorem d_Mo_behindStatement_55 : decode b_Mo_behindStatement 55 = .ok (.if_icmp .ne 53, 3) := by decide +kernel
theorem d_Mo_behindStatement_58 : decode b_Mo_behindStatement 58 = .ok (.aload_n 0, 1) := by decide +kernel
theorem d_Mo_behindStatement_59 : decode b_Mo_behindStatement 59 = .ok (.getfield 29, 3) := by decide +kernel
theorem d_Mo_behindStatement_62 : decode b_Mo_behindStatement 62 = .ok (.iload_n 2, 1) := by decide +kernel
theorem d_Mo_behindStatement_63 : decode b_Mo_behindStatement 63 = .ok (.aload_n 0, 1) := by decide +kernel
theorem d_Mo_behindStatement_64 : decode b_Mo_behindStatement 64 = .ok (.getfield 190, 3) := by decide +kernel
theorem d_Mo_behindStatement_67 : decode b_Mo_behindStatement 67 = .ok (.iastore, 1) := by decide +kernel
theorem d_Mo_behindStatement_68 : decode b_Mo_behindStatement 68 = .ok (.aload_n 0, 1) := by decide +kernel
theorem d_Mo_behindStatement_69 : decode b_Mo_behindStatement 69 = .ok (.getfield 84, 3) := by decide +kernel
theorem d_Mo_behindStatement_72 : decode b_Mo_behindStatement 72 = .ok (.aload_n 0, 1) := by decide +kernel
theorem d_Mo_behindStatement_73 : decode b_Mo_behindStatement 73 = .ok (.getfield 253, 3) := by decide +kernel
theorem d_Mo_behindStatement_76 : decode b_Mo_behindStatement 76 = .ok (.iconst 1, 1) := by decide +kernel
theorem d_Mo_behindStatement_77 : decode b_Mo_behindStatement 77 = .ok (.isub, 1) := by decide +kernel
theorem d_Mo_behindStatement_78 : decode b_Mo_behindStatement 78 = .ok (.bipush 9, 2) := by decide +kernel
theorem d_Mo_behindStatement_80 : decode b_Mo_behindStatement 80 = .ok (.iastore, 1) := by decide +kernel
theorem d_Mo_behindStatement_81 : decode b_Mo_behindStatement 81 = .ok (.aload_n 0, 1) := by decide +kernel
theorem d_Mo_behindStatement_82 : decode b_Mo_behindStatement 82 = .ok (.getfield 87, 3) := by decide +kernel
theorem d_Mo_behindStatement_85 : decode b_Mo_behindStatement 85 = .ok (.aload_n 0, 1) := by decide +kernel
theorem d_Mo_behindStatement_86 : decode b_Mo_behindStatement 86 = .ok (.getfield 253, 3) := by decide +kernel
theorem d_Mo_behindStatement_89 : decode b_Mo_behindStatement 89 = .ok (.iconst 1, 1) := by decide +kernel
theorem d_Mo_behindStatement_90 : decode b_Mo_behindStatement 90 = .ok (.isub, 1) := by decide +kernel
theorem d_Mo_behindStatement_91 : decode b_Mo_behindStatement 91 = .ok (.aload_n 0, 1) := by decide +kernel
theorem d_Mo_behindStatement_92 : decode b_Mo_behindStatement 92 = .ok (.getfield 190, 3) := by decide +kernel
theorem d_Mo_behindStatement_95 : decode b_Mo_behindStatement 95 = .ok (.iastore, 1) := by decide +kernel
theorem d_Mo_behindStatement_96 : decode b_Mo_behindStatement 96 = .ok (.aload_n 0, 1) := by decide +kernel
theorem d_Mo_behindStatement_97 : decode b_Mo_behindStatement 97 = .ok (.dup, 1) := by decide +kernel
theorem d_Mo_behindStatement_98 : decode b_Mo_behindStatement 98 = .ok (.getfield 190, 3) := by decide +kernel
theorem d_Mo_behindStatement_101 : decode b_Mo_behindStatement 101 = .ok (.iconst 1, 1) := by decide +kernel
theorem d_Mo_behindStatement_102 : decode b_Mo_behindStatement 102 = .ok (.iadd, 1) := by decide +kernel
theorem d_Mo_behindStatement_103 : decode b_Mo_behindStatement 103 = .ok (.putfield 190, 3) := by decide +kernel
theorem d_Mo_behindStatement_106 : decode b_Mo_behindStatement 106 = .ok (.iconst 1, 1) := by decide +kernel
theorem d_Mo_behindStatement_107 : decode b_Mo_behindStatement 107 = .ok (.ireturn, 1) := by decide +kernel
theorem d_Mo_behindStatement_108 : decode b_Mo_behindStatement 108 = .ok (.iload_n 1, 1) := by decide +kernel
theorem d_Mo_behindStatement_109 : decode b_Mo_behindStatement 109 = .ok (.iconst 5, 1) := by decide +kernel
theorem d_Mo_behindStatement_110 : decode b_Mo_behindStatement 110 = .ok (.if_icmp .ne 20, 3) := by decide +kernel
theorem d_Mo_behindStatement_113 : decode b_Mo_behindStatement 113 = .ok (.aload_n 0, 1) := by decide +kernel
theorem d_Mo_behindStatement_114 : decode b_Mo_behindStatement 114 = .ok (.bipush 59, 2) := by decide +kernel
theorem d_Mo_behindStatement_116 : decode b_Mo_behindStatement 116 = .ok (.invokevirtual 193, 3) := by decide +kernel
theorem d_Mo_behindStatement_119 : decode b_Mo_behindStatement 119 = .ok (.ifCond .eq 5, 3) := by decide +kernel
theorem d_Mo_behindStatement_122 : decode b_Mo_behindStatement 122 = .ok (.iconst 1, 1) := by decide +kernel
theorem d_Mo_behindStatement_123 : decode b_Mo_behindStatement 123 = .ok (.ireturn, 1) := by decide +kernel
theorem d_Mo_behindStatement_124 : decode b_Mo_behindStatement 124 = .ok (.aload_n 0, 1) := by decide +kernel
theorem d_Mo_behindStatement_125 : decode b_Mo_behindStatement 125 = .ok (.bipush 6, 2) := by decide +kernel
theorem d_Mo_behindStatement_127 : decode b_Mo_behindStatement 127 = .ok (.invokevirtual 227, 3) := by decide +kernel
theorem d_Mo_behindStatement_130 : decode b_Mo_behindStatement 130 = .ok (.aload_n 0, 1) := by decide +kernel
theorem d_Mo_behindStatement_131 : decode b_Mo_behindStatement 131 = .ok (.getfield 29, 3) := by decide +kernel
theorem d_Mo_behindStatement_134 : decode b_Mo_behindStatement 134 = .ok (.iload_n 2, 1) := by decide +kernel
theorem d_Mo_behindStatement_135 : decode b_Mo_behindStatement 135 = .ok (.aload_n 0, 1) := by decide +kernel
theorem d_Mo_behindStatement_136 : decode b_Mo_behindStatement 136 = .ok (.getfield 190, 3) := by decide +kernel
theorem d_Mo_behindStatement_139 : decode b_Mo_behindStatement 139 = .ok (.iastore, 1) := by decide +kernel
theorem d_Mo_behindStatement_140 : decode b_Mo_behindStatement 140 = .ok (.aload_n 0, 1) := by decide +kernel
theorem d_Mo_behindStatement_141 : decode b_Mo_behindStatement 141 = .ok (.dup, 1) := by decide +kernel
theorem d_Mo_behindStatement_142 : decode b_Mo_behindStatement 142 = .ok (.getfield 253, 3) := by decide +kernel
theorem d_Mo_behindStatement_145 : decode b_Mo_behindStatement 145 = .ok (.iconst 1, 1) := by decide +kernel
theorem d_Mo_behindStatement_146 : decode b_Mo_behindStatement 146 = .ok (.isub, 1) := by decide +kernel
theorem d_Mo_behindStatement_147 : decode b_Mo_behindStatement 147 = .ok (.putfield 253, 3) := by decide +kernel
theorem d_Mo_behindStatement_150 : decode b_Mo_behindStatement 150 = .ok (.goto (-150), 3) := by decide +kernel
theorem d_Mo_behindStatement_153 : decode b_Mo_behindStatement 153 = .ok (.aload_n 0, 1) := by decide +kernel
theorem d_Mo_behindStatement_154 : decode b_Mo_behindStatement 154 = .ok (.bipush 59, 2) := by decide +kernel
theorem d_Mo_behindStatement_156 : decode b_Mo_behindStatement 156 = .ok (.invokevirtual 193, 3) := by decide +kernel
theorem d_Mo_behindStatement_159 : decode b_Mo_behindStatement 159 = .ok (.ireturn, 1) := by decide +kernel
theorem d_Mo_statements_0 : decode b_Mo_statements 0 = .ok (.aload_n 0, 1) := by decide +kernel
theorem d_Mo_statements_1 : decode b_Mo_statements 1 = .ok (.getfield 66, 3) := by decide +kernel
theorem d_Mo_statements_4 : decode b_Mo_statements 4 = .ok (.aload_n 0, 1) := by decide +kernel
theorem d_Mo_statements_5 : decode b_Mo_statements 5 = .ok (.getfield 208, 3) := by decide +kernel
theorem d_Mo_statements_8 : decode b_Mo_statements 8 = .ok (.aload_n 0, 1) := by decide +kernel
theorem d_Mo_statements_9 : decode b_Mo_statements 9 = .ok (.getfield 190, 3) := by decide +kernel
theorem d_Mo_statements_12 : decode b_Mo_statements 12 = .ok (.iastore, 1) := by decide +kernel
theorem d_Mo_statements_13 : decode b_Mo_statements 13 = .ok (.aload_n 0, 1) := by decide +kernel
theorem d_Mo_statements_14 : decode b_Mo_statements 14 = .ok (.iconst 0, 1) := by decide +kernel
theorem d_Mo_statements_15 : decode b_Mo_statements 15 = .ok (.putfield 253, 3) := by decide +kernel
theorem d_Mo_statements_18 : decode b_Mo_statements 18 = .ok (.iconst 1, 1) := by decide +kernel
theorem d_Mo_statements_19 : decode b_Mo_statements 19 = .ok (.istore_n 1, 1) := by decide +kernel
theorem d_Mo_statements_20 : decode b_Mo_statements 20 = .ok (.iload_n 1, 1) := by decide +kernel
theorem d_Mo_statements_21 : decode b_Mo_statements 21 = .ok (.ifCond .eq 25, 3) := by decide +kernel
theorem d_Mo_statements_24 : decode b_Mo_statements 24 = .ok (.aload_n 0, 1) := by decide +kernel
theorem d_Mo_statements_25 : decode b_Mo_statements 25 = .ok (.getfield 187, 3) := by decide +kernel
theorem d_Mo_statements_28 : decode b_Mo_statements 28 = .ok (.ifCond .ge 18, 3) := by decide +kernel
theorem d_Mo_statements_31 : decode b_Mo_statements 31 = .ok (.aload_n 0, 1) := by decide +kernel
theorem d_Mo_statements_32 : decode b_Mo_statements 32 = .ok (.invokevirtual 265, 3) := by decide +kernel
theorem d_Mo_statements_35 : decode b_Mo_statements 35 = .ok (.ifCond .eq (-15), 3) := by decide +kernel
theorem d_Mo_statements_38 : decode b_Mo_statements 38 = .ok (.aload_n 0, 1) := by decide +kernel
theorem d_Mo_statements_39 : decode b_Mo_statements 39 = .ok (.invokevirtual 269, 3) := by decide +kernel
theorem d_Mo_statements_42 : decode b_Mo_statements 42 = .ok (.istore_n 1, 1) := by decide +kernel
theorem d_Mo_statements_43 : decode b_Mo_statements 43 = .ok (.goto (-23), 3) := by decide +kernel
theorem d_Mo_statements_46 : decode b_Mo_statements 46 = .ok (.aload_n 0, 1) := by decide +kernel
theorem d_Mo_statements_47 : decode b_Mo_statements 47 = .ok (.bipush 6, 2) := by decide +kernel
theorem d_Mo_statements_49 : decode b_Mo_statements 49 = .ok (.invokevirtual 227, 3) := by decide +kernel
theorem d_Mo_statements_52 : decode b_Mo_statements 52 = .ok (.return_, 1) := by decide +kernel
theorem d_Mo_readProgram_0 : decode b_Mo_readProgram 0 = .ok (.aload_n 0, 1) := by decide +kernel
theorem d_Mo_readProgram_1 : decode b_Mo_readProgram 1 = .ok (.iconst 0, 1) := by decide +kernel
theorem d_Mo_readProgram_2 : decode b_Mo_readProgram 2 = .ok (.putfield 205, 3) := by decide +kernel
theorem d_Mo_readProgram_5 : decode b_Mo_readProgram 5 = .ok (.aload_n 0, 1) := by decide +kernel
theorem d_Mo_readProgram_6 : decode b_Mo_readProgram 6 = .ok (.iconst 0, 1) := by decide +kernel
theorem d_Mo_readProgram_7 : decode b_Mo_readProgram 7 = .ok (.putfield 202, 3) := by decide +kernel
theorem d_Mo_readProgram_10 : decode b_Mo_readProgram 10 = .ok (.aload_n 0, 1) := by decide +kernel
theorem d_Mo_readProgram_11 : decode b_Mo_readProgram 11 = .ok (.iconst 0, 1) := by decide +kernel
theorem d_Mo_readProgram_12 : decode b_Mo_readProgram 12 = .ok (.putfield 199, 3) := by decide +kernel
theorem d_Mo_readProgram_15 : decode b_Mo_readProgram 15 = .ok (.aload_n 0, 1) := by decide +kernel
theorem d_Mo_readProgram_16 : decode b_Mo_readProgram 16 = .ok (.iconst 0, 1) := by decide +kernel
theorem d_Mo_readProgram_17 : decode b_Mo_readProgram 17 = .ok (.putfield 211, 3) := by decide +kernel
theorem d_Mo_readProgram_20 : decode b_Mo_readProgram 20 = .ok (.aload_n 0, 1) := by decide +kernel
theorem d_Mo_readProgram_21 : decode b_Mo_readProgram 21 = .ok (.iconst (-1), 1) := by decide +kernel
theorem d_Mo_readProgram_22 : decode b_Mo_readProgram 22 = .ok (.invokevirtual 221, 3) := by decide +kernel
theorem d_Mo_readProgram_25 : decode b_Mo_readProgram 25 = .ok (.aload_n 0, 1) := by decide +kernel
theorem d_Mo_readProgram_26 : decode b_Mo_readProgram 26 = .ok (.invokevirtual 230, 3) := by decide +kernel
theorem d_Mo_readProgram_29 : decode b_Mo_readProgram 29 = .ok (.iconst 1, 1) := by decide +kernel
theorem d_Mo_readProgram_30 : decode b_Mo_readProgram 30 = .ok (.istore_n 1, 1) := by decide +kernel
theorem d_Mo_readProgram_31 : decode b_Mo_readProgram 31 = .ok (.iload_n 1, 1) := by decide +kernel
theorem d_Mo_readProgram_32 : decode b_Mo_readProgram 32 = .ok (.ifCond .eq 96, 3) := by decide +kernel
theorem d_Mo_readProgram_35 : decode b_Mo_readProgram 35 = .ok (.aload_n 0, 1) := by decide +kernel
theorem d_Mo_readProgram_36 : decode b_Mo_readProgram 36 = .ok (.getfield 187, 3) := by decide +kernel
theorem d_Mo_readProgram_39 : decode b_Mo_readProgram 39 = .ok (.ifCond .ge 89, 3) := by decide +kernel
theorem d_Mo_readProgram_42 : decode b_Mo_readProgram 42 = .ok (.aload_n 0, 1) := by decide +kernel
theorem d_Mo_readProgram_43 : decode b_Mo_readProgram 43 = .ok (.iconst 4, 1) := by decide +kernel
theorem d_Mo_readProgram_44 : decode b_Mo_readProgram 44 = .ok (.invokevirtual 193, 3) := by decide +kernel
theorem d_Mo_readProgram_47 : decode b_Mo_readProgram 47 = .ok (.ifCond .eq 10, 3) := by decide +kernel
theorem d_Mo_readProgram_50 : decode b_Mo_readProgram 50 = .ok (.aload_n 0, 1) := by decide +kernel
theorem d_Mo_readProgram_51 : decode b_Mo_readProgram 51 = .ok (.invokevirtual 272, 3) := by decide +kernel
theorem d_Mo_readProgram_54 : decode b_Mo_readProgram 54 = .ok (.goto (-23), 3) := by decide +kernel
theorem d_Mo_readProgram_57 : decode b_Mo_readProgram 57 = .ok (.aload_n 0, 1) := by decide +kernel
theorem d_Mo_readProgram_58 : decode b_Mo_readProgram 58 = .ok (.iconst 5, 1) := by decide +kernel
theorem d_Mo_readProgram_59 : decode b_Mo_readProgram 59 = .ok (.invokevirtual 227, 3) := by decide +kernel
theorem d_Mo_readProgram_62 : decode b_Mo_readProgram 62 = .ok (.aload_n 0, 1) := by decide +kernel
theorem d_Mo_readProgram_63 : decode b_Mo_readProgram 63 = .ok (.getfield 187, 3) := by decide +kernel
theorem d_Mo_readProgram_66 : decode b_Mo_readProgram 66 = .ok (.ifCond .ge 7, 3) := by decide +kernel
theorem d_Mo_readProgram_69 : decode b_Mo_readProgram 69 = .ok (.aload_n 0, 1) := by decide +kernel
theorem d_Mo_readProgram_70 : decode b_Mo_readProgram 70 = .ok (.invokevirtual 275, 3) := by decide +kernel
theorem d_Mo_readProgram_73 : decode b_Mo_readProgram 73 = .ok (.aload_n 0, 1) := by decide +kernel
theorem d_Mo_readProgram_74 : decode b_Mo_readProgram 74 = .ok (.getfield 63, 3) := by decide +kernel
theorem d_Mo_readProgram_77 : decode b_Mo_readProgram 77 = .ok (.aload_n 0, 1) := by decide +kernel
theorem d_Mo_readProgram_78 : decode b_Mo_readProgram 78 = .ok (.getfield 208, 3) := by decide +kernel
theorem d_Mo_readProgram_81 : decode b_Mo_readProgram 81 = .ok (.iaload, 1) := by decide +kernel
theorem d_Mo_readProgram_82 : decode b_Mo_readProgram 82 = .ok (.ifCond .lt 7, 3) := by decide +kernel
theorem d_Mo_readProgram_85 : decode b_Mo_readProgram 85 = .ok (.iconst 1, 1) := by decide +kernel
theorem d_Mo_readProgram_86 : decode b_Mo_readProgram 86 = .ok (.goto 4, 3) := by decide +kernel
theorem d_Mo_readProgram_89 : decode b_Mo_readProgram 89 = .ok (.iconst 0, 1) := by decide +kernel
theorem d_Mo_readProgram_90 : decode b_Mo_readProgram 90 = .ok (.istore_n 1, 1) := by decide +kernel
theorem d_Mo_readProgram_91 : decode b_Mo_readProgram 91 = .ok (.aload_n 0, 1) := by decide +kernel
theorem d_Mo_readProgram_92 : decode b_Mo_readProgram 92 = .ok (.iload_n 1, 1) := by decide +kernel
theorem d_Mo_readProgram_93 : decode b_Mo_readProgram 93 = .ok (.ifCond .eq 15, 3) := by decide +kernel
theorem d_Mo_readProgram_96 : decode b_Mo_readProgram 96 = .ok (.aload_n 0, 1) := by decide +kernel
theorem d_Mo_readProgram_97 : decode b_Mo_readProgram 97 = .ok (.getfield 63, 3) := by decide +kernel
theorem d_Mo_readProgram_100 : decode b_Mo_readProgram 100 = .ok (.aload_n 0, 1) := by decide +kernel
theorem d_Mo_readProgram_101 : decode b_Mo_readProgram 101 = .ok (.getfield 208, 3) := by decide +kernel
theorem d_Mo_readProgram_104 : decode b_Mo_readProgram 104 = .ok (.iaload, 1) := by decide +kernel
theorem d_Mo_readProgram_105 : decode b_Mo_readProgram 105 = .ok (.goto 7, 3) := by decide +kernel
theorem d_Mo_readProgram_108 : decode b_Mo_readProgram 108 = .ok (.aload_n 0, 1) := by decide +kernel
theorem d_Mo_readProgram_109 : decode b_Mo_readProgram 109 = .ok (.getfield 208, 3) := by decide +kernel
theorem d_Mo_readProgram_112 : decode b_Mo_readProgram 112 = .ok (.putfield 208, 3) := by decide +kernel
theorem d_Mo_readProgram_115 : decode b_Mo_readProgram 115 = .ok (.iload_n 1, 1) := by decide +kernel
theorem d_Mo_readProgram_116 : decode b_Mo_readProgram 116 = .ok (.ifCond .eq (-85), 3) := by decide +kernel
theorem d_Mo_readProgram_119 : decode b_Mo_readProgram 119 = .ok (.aload_n 0, 1) := by decide +kernel
theorem d_Mo_readProgram_120 : decode b_Mo_readProgram 120 = .ok (.bipush 59, 2) := by decide +kernel
theorem d_Mo_readProgram_122 : decode b_Mo_readProgram 122 = .ok (.invokevirtual 227, 3) := by decide +kernel
theorem d_Mo_readProgram_125 : decode b_Mo_readProgram 125 = .ok (.goto (-94), 3) := by decide +kernel
theorem d_Mo_readProgram_128 : decode b_Mo_readProgram 128 = .ok (.aload_n 0, 1) := by decide +kernel
theorem d_Mo_readProgram_129 : decode b_Mo_readProgram 129 = .ok (.bipush 46, 2) := by decide +kernel
theorem d_Mo_readProgram_131 : decode b_Mo_readProgram 131 = .ok (.invokevirtual 227, 3) := by decide +kernel
theorem d_Mo_readProgram_134 : decode b_Mo_readProgram 134 = .ok (.aload_n 0, 1) := by decide +kernel
theorem d_Mo_readProgram_135 : decode b_Mo_readProgram 135 = .ok (.getfield 187, 3) := by decide +kernel
theorem d_Mo_readProgram_138 : decode b_Mo_readProgram 138 = .ok (.ifCond .ge 23, 3) := by decide +kernel
theorem d_Mo_readProgram_141 : decode b_Mo_readProgram 141 = .ok (.aload_n 0, 1) := by decide +kernel
theorem d_Mo_readProgram_142 : decode b_Mo_readProgram 142 = .ok (.getfield 13, 3) := by decide +kernel
theorem d_Mo_readProgram_145 : decode b_Mo_readProgram 145 = .ok (.aload_n 0, 1) := by decide +kernel
theorem d_Mo_readProgram_146 : decode b_Mo_readProgram 146 = .ok (.getfield 190, 3) := by decide +kernel
theorem d_Mo_readProgram_149 : decode b_Mo_readProgram 149 = .ok (.iaload, 1) := by decide +kernel
theorem d_Mo_readProgram_150 : decode b_Mo_readProgram 150 = .ok (.ifCond .eq 11, 3) := by decide +kernel
theorem d_Mo_readProgram_153 : decode b_Mo_readProgram 153 = .ok (.aload_n 0, 1) := by decide +kernel
theorem d_Mo_readProgram_154 : decode b_Mo_readProgram 154 = .ok (.aload_n 0, 1) := by decide +kernel
theorem d_Mo_readProgram_155 : decode b_Mo_readProgram 155 = .ok (.getfield 190, 3) := by decide +kernel
theorem d_Mo_readProgram_158 : decode b_Mo_readProgram 158 = .ok (.invokevirtual 196, 3) := by decide +kernel
theorem d_Mo_readProgram_161 : decode b_Mo_readProgram 161 = .ok (.return_, 1) := by decide +kernel
theorem d_Mo_compile_0 : decode b_Mo_compile 0 = .ok (.aload_n 0, 1) := by decide +kernel
theorem d_Mo_compile_1 : decode b_Mo_compile 1 = .ok (.iconst 0, 1) := by decide +kernel
theorem d_Mo_compile_2 : decode b_Mo_compile 2 = .ok (.putfield 132, 3) := by decide +kernel
theorem d_Mo_compile_5 : decode b_Mo_compile 5 = .ok (.aload_n 0, 1) := by decide +kernel
theorem d_Mo_compile_6 : decode b_Mo_compile 6 = .ok (.invokevirtual 278, 3) := by decide +kernel
theorem d_Mo_compile_9 : decode b_Mo_compile 9 = .ok (.aload_n 0, 1) := by decide +kernel
theorem d_Mo_compile_10 : decode b_Mo_compile 10 = .ok (.iconst 0, 1) := by decide +kernel
theorem d_Mo_compile_11 : decode b_Mo_compile 11 = .ok (.putfield 190, 3) := by decide +kernel
theorem d_Mo_compile_14 : decode b_Mo_compile 14 = .ok (.aload_n 0, 1) := by decide +kernel
theorem d_Mo_compile_15 : decode b_Mo_compile 15 = .ok (.iconst (-1), 1) := by decide +kernel
theorem d_Mo_compile_16 : decode b_Mo_compile 16 = .ok (.putfield 187, 3) := by decide +kernel
theorem d_Mo_compile_19 : decode b_Mo_compile 19 = .ok (.aload_n 0, 1) := by decide +kernel
theorem d_Mo_compile_20 : decode b_Mo_compile 20 = .ok (.invokevirtual 281, 3) := by decide +kernel
theorem d_Mo_compile_23 : decode b_Mo_compile 23 = .ok (.aload_n 0, 1) := by decide +kernel
theorem d_Mo_compile_24 : decode b_Mo_compile 24 = .ok (.getfield 187, 3) := by decide +kernel
theorem d_Mo_compile_27 : decode b_Mo_compile 27 = .ok (.ifCond .lt 58, 3) := by decide +kernel
theorem d_Mo_compile_30 : decode b_Mo_compile 30 = .ok (.aload_n 0, 1) := by decide +kernel
theorem d_Mo_compile_31 : decode b_Mo_compile 31 = .ok (.aload_n 0, 1) := by decide +kernel
theorem d_Mo_compile_32 : decode b_Mo_compile 32 = .ok (.getfield 187, 3) := by decide +kernel
theorem d_Mo_compile_35 : decode b_Mo_compile 35 = .ok (.aload_n 0, 1) := by decide +kernel
theorem d_Mo_compile_36 : decode b_Mo_compile 36 = .ok (.getfield 162, 3) := by decide +kernel
theorem d_Mo_compile_39 : decode b_Mo_compile 39 = .ok (.if_icmp .ge 15, 3) := by decide +kernel
theorem d_Mo_compile_42 : decode b_Mo_compile 42 = .ok (.aload_n 0, 1) := by decide +kernel
theorem d_Mo_compile_43 : decode b_Mo_compile 43 = .ok (.getfield 20, 3) := by decide +kernel
theorem d_Mo_compile_46 : decode b_Mo_compile 46 = .ok (.aload_n 0, 1) := by decide +kernel
theorem d_Mo_compile_47 : decode b_Mo_compile 47 = .ok (.getfield 187, 3) := by decide +kernel
theorem d_Mo_compile_50 : decode b_Mo_compile 50 = .ok (.iaload, 1) := by decide +kernel
theorem d_Mo_compile_51 : decode b_Mo_compile 51 = .ok (.goto 25, 3) := by decide +kernel
theorem d_Mo_compile_54 : decode b_Mo_compile 54 = .ok (.aload_n 0, 1) := by decide +kernel
theorem d_Mo_compile_55 : decode b_Mo_compile 55 = .ok (.getfield 162, 3) := by decide +kernel
theorem d_Mo_compile_58 : decode b_Mo_compile 58 = .ok (.ifCond .ne 7, 3) := by decide +kernel
theorem d_Mo_compile_61 : decode b_Mo_compile 61 = .ok (.iconst 0, 1) := by decide +kernel
theorem d_Mo_compile_62 : decode b_Mo_compile 62 = .ok (.goto 14, 3) := by decide +kernel
theorem d_Mo_compile_65 : decode b_Mo_compile 65 = .ok (.aload_n 0, 1) := by decide +kernel
theorem d_Mo_compile_66 : decode b_Mo_compile 66 = .ok (.getfield 23, 3) := by decide +kernel
theorem d_Mo_compile_69 : decode b_Mo_compile 69 = .ok (.aload_n 0, 1) := by decide +kernel
theorem d_Mo_compile_70 : decode b_Mo_compile 70 = .ok (.getfield 162, 3) := by decide +kernel
theorem d_Mo_compile_73 : decode b_Mo_compile 73 = .ok (.iconst 1, 1) := by decide +kernel
theorem d_Mo_compile_74 : decode b_Mo_compile 74 = .ok (.isub, 1) := by decide +kernel
theorem d_Mo_compile_75 : decode b_Mo_compile 75 = .ok (.iaload, 1) := by decide +kernel
theorem d_Mo_compile_76 : decode b_Mo_compile 76 = .ok (.putfield 44, 3) := by decide +kernel
theorem d_Mo_compile_79 : decode b_Mo_compile 79 = .ok (.aload_n 0, 1) := by decide +kernel
theorem d_Mo_compile_80 : decode b_Mo_compile 80 = .ok (.iconst 1, 1) := by decide +kernel
theorem d_Mo_compile_81 : decode b_Mo_compile 81 = .ok (.invokevirtual 135, 3) := by decide +kernel
theorem d_Mo_compile_84 : decode b_Mo_compile 84 = .ok (.ireturn, 1) := by decide +kernel
theorem d_Mo_compile_85 : decode b_Mo_compile 85 = .ok (.aload_n 0, 1) := by decide +kernel
theorem d_Mo_compile_86 : decode b_Mo_compile 86 = .ok (.iconst (-1), 1) := by decide +kernel
theorem d_Mo_compile_87 : decode b_Mo_compile 87 = .ok (.putfield 44, 3) := by decide +kernel
theorem d_Mo_compile_90 : decode b_Mo_compile 90 = .ok (.aload_n 0, 1) := by decide +kernel
theorem d_Mo_compile_91 : decode b_Mo_compile 91 = .ok (.iconst 1, 1) := by decide +kernel
theorem d_Mo_compile_92 : decode b_Mo_compile 92 = .ok (.putfield 284, 3) := by decide +kernel
theorem d_Mo_compile_95 : decode b_Mo_compile 95 = .ok (.iconst 0, 1) := by decide +kernel
theorem d_Mo_compile_96 : decode b_Mo_compile 96 = .ok (.istore_n 1, 1) := by decide +kernel
theorem d_Mo_compile_97 : decode b_Mo_compile 97 = .ok (.iload_n 1, 1) := by decide +kernel
theorem d_Mo_compile_98 : decode b_Mo_compile 98 = .ok (.sipush 155, 3) := by decide +kernel
theorem d_Mo_compile_101 : decode b_Mo_compile 101 = .ok (.if_icmp .ge 58, 3) := by decide +kernel
theorem d_Mo_compile_104 : decode b_Mo_compile 104 = .ok (.aload_n 0, 1) := by decide +kernel
theorem d_Mo_compile_105 : decode b_Mo_compile 105 = .ok (.getfield 32, 3) := by decide +kernel
theorem d_Mo_compile_108 : decode b_Mo_compile 108 = .ok (.iload_n 1, 1) := by decide +kernel
theorem d_Mo_compile_109 : decode b_Mo_compile 109 = .ok (.aload_n 0, 1) := by decide +kernel
theorem d_Mo_compile_110 : decode b_Mo_compile 110 = .ok (.getfield 13, 3) := by decide +kernel
theorem d_Mo_compile_113 : decode b_Mo_compile 113 = .ok (.iload_n 1, 1) := by decide +kernel
theorem d_Mo_compile_114 : decode b_Mo_compile 114 = .ok (.iaload, 1) := by decide +kernel
theorem d_Mo_compile_115 : decode b_Mo_compile 115 = .ok (.iastore, 1) := by decide +kernel
theorem d_Mo_compile_116 : decode b_Mo_compile 116 = .ok (.aload_n 0, 1) := by decide +kernel
theorem d_Mo_compile_117 : decode b_Mo_compile 117 = .ok (.getfield 35, 3) := by decide +kernel
theorem d_Mo_compile_120 : decode b_Mo_compile 120 = .ok (.iload_n 1, 1) := by decide +kernel
theorem d_Mo_compile_121 : decode b_Mo_compile 121 = .ok (.aload_n 0, 1) := by decide +kernel
theorem d_Mo_compile_122 : decode b_Mo_compile 122 = .ok (.getfield 16, 3) := by decide +kernel
theorem d_Mo_compile_125 : decode b_Mo_compile 125 = .ok (.iload_n 1, 1) := by decide +kernel
theorem d_Mo_compile_126 : decode b_Mo_compile 126 = .ok (.laload, 1) := by decide +kernel
theorem d_Mo_compile_127 : decode b_Mo_compile 127 = .ok (.l2i, 1) := by decide +kernel
theorem d_Mo_compile_128 : decode b_Mo_compile 128 = .ok (.iastore, 1) := by decide +kernel
theorem d_Mo_compile_129 : decode b_Mo_compile 129 = .ok (.aload_n 0, 1) := by decide +kernel
theorem d_Mo_compile_130 : decode b_Mo_compile 130 = .ok (.getfield 38, 3) := by decide +kernel
theorem d_Mo_compile_133 : decode b_Mo_compile 133 = .ok (.iload_n 1, 1) := by decide +kernel
theorem d_Mo_compile_134 : decode b_Mo_compile 134 = .ok (.aload_n 0, 1) := by decide +kernel
theorem d_Mo_compile_135 : decode b_Mo_compile 135 = .ok (.getfield 26, 3) := by decide +kernel
theorem d_Mo_compile_138 : decode b_Mo_compile 138 = .ok (.iload_n 1, 1) := by decide +kernel
theorem d_Mo_compile_139 : decode b_Mo_compile 139 = .ok (.iaload, 1) := by decide +kernel
theorem d_Mo_compile_140 : decode b_Mo_compile 140 = .ok (.iastore, 1) := by decide +kernel
theorem d_Mo_compile_141 : decode b_Mo_compile 141 = .ok (.aload_n 0, 1) := by decide +kernel
theorem d_Mo_compile_142 : decode b_Mo_compile 142 = .ok (.getfield 41, 3) := by decide +kernel
theorem d_Mo_compile_145 : decode b_Mo_compile 145 = .ok (.iload_n 1, 1) := by decide +kernel
theorem d_Mo_compile_146 : decode b_Mo_compile 146 = .ok (.aload_n 0, 1) := by decide +kernel
theorem d_Mo_compile_147 : decode b_Mo_compile 147 = .ok (.getfield 29, 3) := by decide +kernel
theorem d_Mo_compile_150 : decode b_Mo_compile 150 = .ok (.iload_n 1, 1) := by decide +kernel
theorem d_Mo_compile_151 : decode b_Mo_compile 151 = .ok (.iaload, 1) := by decide +kernel
theorem d_Mo_compile_152 : decode b_Mo_compile 152 = .ok (.iastore, 1) := by decide +kernel
theorem d_Mo_compile_153 : decode b_Mo_compile 153 = .ok (.iinc 1 1, 3) := by decide +kernel
theorem d_Mo_compile_156 : decode b_Mo_compile 156 = .ok (.goto (-59), 3) := by decide +kernel
theorem d_Mo_compile_159 : decode b_Mo_compile 159 = .ok (.iconst 0, 1) := by decide +kernel
theorem d_Mo_compile_160 : decode b_Mo_compile 160 = .ok (.istore_n 1, 1) := by decide +kernel
theorem d_Mo_compile_161 : decode b_Mo_compile 161 = .ok (.iload_n 1, 1) := by decide +kernel
theorem d_Mo_compile_162 : decode b_Mo_compile 162 = .ok (.bipush 18, 2) := by decide +kernel
theorem d_Mo_compile_164 : decode b_Mo_compile 164 = .ok (.if_icmp .ge 57, 3) := by decide +kernel
theorem d_Mo_compile_167 : decode b_Mo_compile 167 = .ok (.aload_n 0, 1) := by decide +kernel
theorem d_Mo_compile_168 : decode b_Mo_compile 168 = .ok (.getfield 69, 3) := by decide +kernel
theorem d_Mo_compile_171 : decode b_Mo_compile 171 = .ok (.iload_n 1, 1) := by decide +kernel
theorem d_Mo_compile_172 : decode b_Mo_compile 172 = .ok (.aload_n 0, 1) := by decide +kernel
theorem d_Mo_compile_173 : decode b_Mo_compile 173 = .ok (.getfield 51, 3) := by decide +kernel
theorem d_Mo_compile_176 : decode b_Mo_compile 176 = .ok (.iload_n 1, 1) := by decide +kernel
theorem d_Mo_compile_177 : decode b_Mo_compile 177 = .ok (.iaload, 1) := by decide +kernel
theorem d_Mo_compile_178 : decode b_Mo_compile 178 = .ok (.iastore, 1) := by decide +kernel
theorem d_Mo_compile_179 : decode b_Mo_compile 179 = .ok (.aload_n 0, 1) := by decide +kernel
theorem d_Mo_compile_180 : decode b_Mo_compile 180 = .ok (.getfield 72, 3) := by decide +kernel
theorem d_Mo_compile_183 : decode b_Mo_compile 183 = .ok (.iload_n 1, 1) := by decide +kernel
theorem d_Mo_compile_184 : decode b_Mo_compile 184 = .ok (.aload_n 0, 1) := by decide +kernel
theorem d_Mo_compile_185 : decode b_Mo_compile 185 = .ok (.getfield 54, 3) := by decide +kernel
theorem d_Mo_compile_188 : decode b_Mo_compile 188 = .ok (.iload_n 1, 1) := by decide +kernel
theorem d_Mo_compile_189 : decode b_Mo_compile 189 = .ok (.iaload, 1) := by decide +kernel
theorem d_Mo_compile_190 : decode b_Mo_compile 190 = .ok (.iastore, 1) := by decide +kernel
theorem d_Mo_compile_191 : decode b_Mo_compile 191 = .ok (.aload_n 0, 1) := by decide +kernel
theorem d_Mo_compile_192 : decode b_Mo_compile 192 = .ok (.getfield 75, 3) := by decide +kernel
theorem d_Mo_compile_195 : decode b_Mo_compile 195 = .ok (.iload_n 1, 1) := by decide +kernel
theorem d_Mo_compile_196 : decode b_Mo_compile 196 = .ok (.aload_n 0, 1) := by decide +kernel
theorem d_Mo_compile_197 : decode b_Mo_compile 197 = .ok (.getfield 57, 3) := by decide +kernel
theorem d_Mo_compile_200 : decode b_Mo_compile 200 = .ok (.iload_n 1, 1) := by decide +kernel
theorem d_Mo_compile_201 : decode b_Mo_compile 201 = .ok (.iaload, 1) := by decide +kernel
theorem d_Mo_compile_202 : decode b_Mo_compile 202 = .ok (.iastore, 1) := by decide +kernel
theorem d_Mo_compile_203 : decode b_Mo_compile 203 = .ok (.aload_n 0, 1) := by decide +kernel
theorem d_Mo_compile_204 : decode b_Mo_compile 204 = .ok (.getfield 78, 3) := by decide +kernel
theorem d_Mo_compile_207 : decode b_Mo_compile 207 = .ok (.iload_n 1, 1) := by decide +kernel
theorem d_Mo_compile_208 : decode b_Mo_compile 208 = .ok (.aload_n 0, 1) := by decide +kernel
theorem d_Mo_compile_209 : decode b_Mo_compile 209 = .ok (.getfield 60, 3) := by decide +kernel
theorem d_Mo_compile_212 : decode b_Mo_compile 212 = .ok (.iload_n 1, 1) := by decide +kernel
theorem d_Mo_compile_213 : decode b_Mo_compile 213 = .ok (.iaload, 1) := by decide +kernel
theorem d_Mo_compile_214 : decode b_Mo_compile 214 = .ok (.iastore, 1) := by decide +kernel
theorem d_Mo_compile_215 : decode b_Mo_compile 215 = .ok (.iinc 1 1, 3) := by decide +kernel
theorem d_Mo_compile_218 : decode b_Mo_compile 218 = .ok (.goto (-57), 3) := by decide +kernel
theorem d_Mo_compile_221 : decode b_Mo_compile 221 = .ok (.iconst 0, 1) := by decide +kernel
theorem d_Mo_compile_222 : decode b_Mo_compile 222 = .ok (.istore_n 1, 1) := by decide +kernel
theorem d_Mo_compile_223 : decode b_Mo_compile 223 = .ok (.iload_n 1, 1) := by decide +kernel
theorem d_Mo_compile_224 : decode b_Mo_compile 224 = .ok (.bipush 8, 2) := by decide +kernel
theorem d_Mo_compile_226 : decode b_Mo_compile 226 = .ok (.if_icmp .ge 21, 3) := by decide +kernel
theorem d_Mo_compile_229 : decode b_Mo_compile 229 = .ok (.aload_n 0, 1) := by decide +kernel
theorem d_Mo_compile_230 : decode b_Mo_compile 230 = .ok (.getfield 81, 3) := by decide +kernel
theorem d_Mo_compile_233 : decode b_Mo_compile 233 = .ok (.iload_n 1, 1) := by decide +kernel
theorem d_Mo_compile_234 : decode b_Mo_compile 234 = .ok (.aload_n 0, 1) := by decide +kernel
theorem d_Mo_compile_235 : decode b_Mo_compile 235 = .ok (.getfield 66, 3) := by decide +kernel
theorem d_Mo_compile_238 : decode b_Mo_compile 238 = .ok (.iload_n 1, 1) := by decide +kernel
theorem d_Mo_compile_239 : decode b_Mo_compile 239 = .ok (.iaload, 1) := by decide +kernel
theorem d_Mo_compile_240 : decode b_Mo_compile 240 = .ok (.iastore, 1) := by decide +kernel
theorem d_Mo_compile_241 : decode b_Mo_compile 241 = .ok (.iinc 1 1, 3) := by decide +kernel
theorem d_Mo_compile_244 : decode b_Mo_compile 244 = .ok (.goto (-21), 3) := by decide +kernel
theorem d_Mo_compile_247 : decode b_Mo_compile 247 = .ok (.aload_n 0, 1) := by decide +kernel
theorem d_Mo_compile_248 : decode b_Mo_compile 248 = .ok (.getfield 205, 3) := by decide +kernel
theorem d_Mo_compile_251 : decode b_Mo_compile 251 = .ok (.ireturn, 1) := by decide +kernel
theorem d_Mo_fault_0 : decode b_Mo_fault 0 = .ok (.aload_n 0, 1) := by decide +kernel
theorem d_Mo_fault_1 : decode b_Mo_fault 1 = .ok (.iconst 0, 1) := by decide +kernel
theorem d_Mo_fault_2 : decode b_Mo_fault 2 = .ok (.putfield 132, 3) := by decide +kernel
theorem d_Mo_fault_5 : decode b_Mo_fault 5 = .ok (.aload_n 0, 1) := by decide +kernel
theorem d_Mo_fault_6 : decode b_Mo_fault 6 = .ok (.getfield 44, 3) := by decide +kernel
theorem d_Mo_fault_9 : decode b_Mo_fault 9 = .ok (.ireturn, 1) := by decide +kernel
theorem d_Mo_runOf_0 : decode b_Mo_runOf 0 = .ok (.aload_n 0, 1) := by decide +kernel
theorem d_Mo_runOf_1 : decode b_Mo_runOf 1 = .ok (.getfield 288, 3) := by decide +kernel
theorem d_Mo_runOf_4 : decode b_Mo_runOf 4 = .ok (.istore_n 2, 1) := by decide +kernel
theorem d_Mo_runOf_5 : decode b_Mo_runOf 5 = .ok (.aload_n 0, 1) := by decide +kernel
theorem d_Mo_runOf_6 : decode b_Mo_runOf 6 = .ok (.getfield 96, 3) := by decide +kernel
theorem d_Mo_runOf_9 : decode b_Mo_runOf 9 = .ok (.iload_n 2, 1) := by decide +kernel
theorem d_Mo_runOf_10 : decode b_Mo_runOf 10 = .ok (.iaload, 1) := by decide +kernel
theorem d_Mo_runOf_11 : decode b_Mo_runOf 11 = .ok (.iload_n 1, 1) := by decide +kernel
theorem d_Mo_runOf_12 : decode b_Mo_runOf 12 = .ok (.if_icmp .eq 13, 3) := by decide +kernel
theorem d_Mo_runOf_15 : decode b_Mo_runOf 15 = .ok (.aload_n 0, 1) := by decide +kernel
theorem d_Mo_runOf_16 : decode b_Mo_runOf 16 = .ok (.getfield 99, 3) := by decide +kernel
theorem d_Mo_runOf_19 : decode b_Mo_runOf 19 = .ok (.iload_n 2, 1) := by decide +kernel
theorem d_Mo_runOf_20 : decode b_Mo_runOf 20 = .ok (.iaload, 1) := by decide +kernel
theorem d_Mo_runOf_21 : decode b_Mo_runOf 21 = .ok (.istore_n 2, 1) := by decide +kernel
theorem d_Mo_runOf_22 : decode b_Mo_runOf 22 = .ok (.goto (-17), 3) := by decide +kernel
theorem d_Mo_runOf_25 : decode b_Mo_runOf 25 = .ok (.iload_n 2, 1) := by decide +kernel
theorem d_Mo_runOf_26 : decode b_Mo_runOf 26 = .ok (.ireturn, 1) := by decide +kernel
theorem d_Mo_place_0 : decode b_Mo_place 0 = .ok (.bipush 12, 2) := by decide +kernel
theorem d_Mo_place_2 : decode b_Mo_place 2 = .ok (.aload_n 0, 1) := by decide +kernel
theorem d_Mo_place_3 : decode b_Mo_place 3 = .ok (.aload_n 0, 1) := by decide +kernel
theorem d_Mo_place_4 : decode b_Mo_place 4 = .ok (.getfield 72, 3) := by decide +kernel
theorem d_Mo_place_7 : decode b_Mo_place 7 = .ok (.iload_n 1, 1) := by decide +kernel
theorem d_Mo_place_8 : decode b_Mo_place 8 = .ok (.iaload, 1) := by decide +kernel
theorem d_Mo_place_9 : decode b_Mo_place 9 = .ok (.invokevirtual 291, 3) := by decide +kernel
theorem d_Mo_place_12 : decode b_Mo_place 12 = .ok (.imul, 1) := by decide +kernel
theorem d_Mo_place_13 : decode b_Mo_place 13 = .ok (.aload_n 0, 1) := by decide +kernel
theorem d_Mo_place_14 : decode b_Mo_place 14 = .ok (.iload_n 1, 1) := by decide +kernel
theorem d_Mo_place_15 : decode b_Mo_place 15 = .ok (.invokevirtual 294, 3) := by decide +kernel
theorem d_Mo_place_18 : decode b_Mo_place 18 = .ok (.iadd, 1) := by decide +kernel
theorem d_Mo_place_19 : decode b_Mo_place 19 = .ok (.istore_n 2, 1) := by decide +kernel
theorem d_Mo_place_20 : decode b_Mo_place 20 = .ok (.aload_n 0, 1) := by decide +kernel
theorem d_Mo_place_21 : decode b_Mo_place 21 = .ok (.getfield 69, 3) := by decide +kernel
theorem d_Mo_place_24 : decode b_Mo_place 24 = .ok (.iload_n 1, 1) := by decide +kernel
theorem d_Mo_place_25 : decode b_Mo_place 25 = .ok (.iaload, 1) := by decide +kernel
theorem d_Mo_place_26 : decode b_Mo_place 26 = .ok (.iconst 2, 1) := by decide +kernel
theorem d_Mo_place_27 : decode b_Mo_place 27 = .ok (.if_icmp .ne 12, 3) := by decide +kernel
theorem d_Mo_place_30 : decode b_Mo_place 30 = .ok (.aload_n 0, 1) := by decide +kernel
theorem d_Mo_place_31 : decode b_Mo_place 31 = .ok (.getfield 93, 3) := by decide +kernel
theorem d_Mo_place_34 : decode b_Mo_place 34 = .ok (.iload_n 2, 1) := by decide +kernel
theorem d_Mo_place_35 : decode b_Mo_place 35 = .ok (.iaload, 1) := by decide +kernel
theorem d_Mo_place_36 : decode b_Mo_place 36 = .ok (.goto 4, 3) := by decide +kernel
theorem d_Mo_place_39 : decode b_Mo_place 39 = .ok (.iload_n 2, 1) := by decide +kernel
theorem d_Mo_place_40 : decode b_Mo_place 40 = .ok (.ireturn, 1) := by decide +kernel
theorem d_Mo_slot_0 : decode b_Mo_slot 0 = .ok (.iconst 0, 1) := by decide +kernel
theorem d_Mo_slot_1 : decode b_Mo_slot 1 = .ok (.istore_n 2, 1) := by decide +kernel
theorem d_Mo_slot_2 : decode b_Mo_slot 2 = .ok (.iconst 0, 1) := by decide +kernel
theorem d_Mo_slot_3 : decode b_Mo_slot 3 = .ok (.istore_n 3, 1) := by decide +kernel
theorem d_Mo_slot_4 : decode b_Mo_slot 4 = .ok (.iload_n 3, 1) := by decide +kernel
theorem d_Mo_slot_5 : decode b_Mo_slot 5 = .ok (.iload_n 1, 1) := by decide +kernel
theorem d_Mo_slot_6 : decode b_Mo_slot 6 = .ok (.if_icmp .ge 22, 3) := by decide +kernel
theorem d_Mo_slot_9 : decode b_Mo_slot 9 = .ok (.aload_n 0, 1) := by decide +kernel
theorem d_Mo_slot_10 : decode b_Mo_slot 10 = .ok (.getfield 69, 3) := by decide +kernel
theorem d_Mo_slot_13 : decode b_Mo_slot 13 = .ok (.iload_n 3, 1) := by decide +kernel
theorem d_Mo_slot_14 : decode b_Mo_slot 14 = .ok (.iaload, 1) := by decide +kernel
theorem d_Mo_slot_15 : decode b_Mo_slot 15 = .ok (.iconst 3, 1) := by decide +kernel
theorem d_Mo_slot_16 : decode b_Mo_slot 16 = .ok (.if_icmp .eq 6, 3) := by decide +kernel
theorem d_Mo_slot_19 : decode b_Mo_slot 19 = .ok (.iinc 2 1, 3) := by decide +kernel
theorem d_Mo_slot_22 : decode b_Mo_slot 22 = .ok (.iinc 3 1, 3) := by decide +kernel
theorem d_Mo_slot_25 : decode b_Mo_slot 25 = .ok (.goto (-21), 3) := by decide +kernel
theorem d_Mo_slot_28 : decode b_Mo_slot 28 = .ok (.iload_n 2, 1) := by decide +kernel
theorem d_Mo_slot_29 : decode b_Mo_slot 29 = .ok (.ireturn, 1) := by decide +kernel
theorem d_Mo_multiply_0 : decode b_Mo_multiply 0 = .ok (.aload_n 0, 1) := by decide +kernel
theorem d_Mo_multiply_1 : decode b_Mo_multiply 1 = .ok (.getfield 126, 3) := by decide +kernel
theorem d_Mo_multiply_4 : decode b_Mo_multiply 4 = .ok (.iload_n 1, 1) := by decide +kernel
theorem d_Mo_multiply_5 : decode b_Mo_multiply 5 = .ok (.iaload, 1) := by decide +kernel
theorem d_Mo_multiply_6 : decode b_Mo_multiply 6 = .ok (.ifCond .ne 10, 3) := by decide +kernel
theorem d_Mo_multiply_9 : decode b_Mo_multiply 9 = .ok (.aload_n 0, 1) := by decide +kernel
theorem d_Mo_multiply_10 : decode b_Mo_multiply 10 = .ok (.getfield 120, 3) := by decide +kernel
theorem d_Mo_multiply_13 : decode b_Mo_multiply 13 = .ok (.iload_n 1, 1) := by decide +kernel
theorem d_Mo_multiply_14 : decode b_Mo_multiply 14 = .ok (.iload_n 2, 1) := by decide +kernel
theorem d_Mo_multiply_15 : decode b_Mo_multiply 15 = .ok (.iastore, 1) := by decide +kernel
theorem d_Mo_multiply_16 : decode b_Mo_multiply 16 = .ok (.aload_n 0, 1) := by decide +kernel
theorem d_Mo_multiply_17 : decode b_Mo_multiply 17 = .ok (.getfield 126, 3) := by decide +kernel
theorem d_Mo_multiply_20 : decode b_Mo_multiply 20 = .ok (.iload_n 1, 1) := by decide +kernel
theorem d_Mo_multiply_21 : decode b_Mo_multiply 21 = .ok (.iaload, 1) := by decide +kernel
theorem d_Mo_multiply_22 : decode b_Mo_multiply 22 = .ok (.bipush 42, 2) := by decide +kernel
theorem d_Mo_multiply_24 : decode b_Mo_multiply 24 = .ok (.if_icmp .ne 13, 3) := by decide +kernel
theorem d_Mo_multiply_27 : decode b_Mo_multiply 27 = .ok (.aload_n 0, 1) := by decide +kernel
theorem d_Mo_multiply_28 : decode b_Mo_multiply 28 = .ok (.getfield 120, 3) := by decide +kernel
theorem d_Mo_multiply_31 : decode b_Mo_multiply 31 = .ok (.iload_n 1, 1) := by decide +kernel
theorem d_Mo_multiply_32 : decode b_Mo_multiply 32 = .ok (.dup2, 1) := by decide +kernel
theorem d_Mo_multiply_33 : decode b_Mo_multiply 33 = .ok (.iaload, 1) := by decide +kernel
theorem d_Mo_multiply_34 : decode b_Mo_multiply 34 = .ok (.iload_n 2, 1) := by decide +kernel
theorem d_Mo_multiply_35 : decode b_Mo_multiply 35 = .ok (.imul, 1) := by decide +kernel
theorem d_Mo_multiply_36 : decode b_Mo_multiply 36 = .ok (.iastore, 1) := by decide +kernel
theorem d_Mo_multiply_37 : decode b_Mo_multiply 37 = .ok (.aload_n 0, 1) := by decide +kernel
theorem d_Mo_multiply_38 : decode b_Mo_multiply 38 = .ok (.getfield 126, 3) := by decide +kernel
theorem d_Mo_multiply_41 : decode b_Mo_multiply 41 = .ok (.iload_n 1, 1) := by decide +kernel
theorem d_Mo_multiply_42 : decode b_Mo_multiply 42 = .ok (.iaload, 1) := by decide +kernel
theorem d_Mo_multiply_43 : decode b_Mo_multiply 43 = .ok (.bipush 47, 2) := by decide +kernel
theorem d_Mo_multiply_45 : decode b_Mo_multiply 45 = .ok (.if_icmp .eq 15, 3) := by decide +kernel
theorem d_Mo_multiply_48 : decode b_Mo_multiply 48 = .ok (.aload_n 0, 1) := by decide +kernel
theorem d_Mo_multiply_49 : decode b_Mo_multiply 49 = .ok (.getfield 126, 3) := by decide +kernel
theorem d_Mo_multiply_52 : decode b_Mo_multiply 52 = .ok (.iload_n 1, 1) := by decide +kernel
theorem d_Mo_multiply_53 : decode b_Mo_multiply 53 = .ok (.iaload, 1) := by decide +kernel
theorem d_Mo_multiply_54 : decode b_Mo_multiply 54 = .ok (.bipush 37, 2) := by decide +kernel
theorem d_Mo_multiply_56 : decode b_Mo_multiply 56 = .ok (.if_icmp .eq 4, 3) := by decide +kernel
theorem d_Mo_multiply_59 : decode b_Mo_multiply 59 = .ok (.return_, 1) := by decide +kernel
theorem d_Mo_multiply_60 : decode b_Mo_multiply 60 = .ok (.iload_n 2, 1) := by decide +kernel
theorem d_Mo_multiply_61 : decode b_Mo_multiply 61 = .ok (.ifCond .ne 11, 3) := by decide +kernel
theorem d_Mo_multiply_64 : decode b_Mo_multiply 64 = .ok (.aload_n 0, 1) := by decide +kernel
theorem d_Mo_multiply_65 : decode b_Mo_multiply 65 = .ok (.iconst 2, 1) := by decide +kernel
theorem d_Mo_multiply_66 : decode b_Mo_multiply 66 = .ok (.putfield 297, 3) := by decide +kernel
theorem d_Mo_multiply_69 : decode b_Mo_multiply 69 = .ok (.goto 39, 3) := by decide +kernel
theorem d_Mo_multiply_72 : decode b_Mo_multiply 72 = .ok (.aload_n 0, 1) := by decide +kernel
theorem d_Mo_multiply_73 : decode b_Mo_multiply 73 = .ok (.getfield 120, 3) := by decide +kernel
theorem d_Mo_multiply_76 : decode b_Mo_multiply 76 = .ok (.iload_n 1, 1) := by decide +kernel
theorem d_Mo_multiply_77 : decode b_Mo_multiply 77 = .ok (.aload_n 0, 1) := by decide +kernel
theorem d_Mo_multiply_78 : decode b_Mo_multiply 78 = .ok (.getfield 126, 3) := by decide +kernel
theorem d_Mo_multiply_81 : decode b_Mo_multiply 81 = .ok (.iload_n 1, 1) := by decide +kernel
theorem d_Mo_multiply_82 : decode b_Mo_multiply 82 = .ok (.iaload, 1) := by decide +kernel
theorem d_Mo_multiply_83 : decode b_Mo_multiply 83 = .ok (.bipush 47, 2) := by decide +kernel
theorem d_Mo_multiply_85 : decode b_Mo_multiply 85 = .ok (.if_icmp .ne 14, 3) := by decide +kernel
theorem d_Mo_multiply_88 : decode b_Mo_multiply 88 = .ok (.aload_n 0, 1) := by decide +kernel
theorem d_Mo_multiply_89 : decode b_Mo_multiply 89 = .ok (.getfield 120, 3) := by decide +kernel
theorem d_Mo_multiply_92 : decode b_Mo_multiply 92 = .ok (.iload_n 1, 1) := by decide +kernel
theorem d_Mo_multiply_93 : decode b_Mo_multiply 93 = .ok (.iaload, 1) := by decide +kernel
theorem d_Mo_multiply_94 : decode b_Mo_multiply 94 = .ok (.iload_n 2, 1) := by decide +kernel
theorem d_Mo_multiply_95 : decode b_Mo_multiply 95 = .ok (.idiv, 1) := by decide +kernel
theorem d_Mo_multiply_96 : decode b_Mo_multiply 96 = .ok (.goto 11, 3) := by decide +kernel
theorem d_Mo_multiply_99 : decode b_Mo_multiply 99 = .ok (.aload_n 0, 1) := by decide +kernel
theorem d_Mo_multiply_100 : decode b_Mo_multiply 100 = .ok (.getfield 120, 3) := by decide +kernel
theorem d_Mo_multiply_103 : decode b_Mo_multiply 103 = .ok (.iload_n 1, 1) := by decide +kernel
theorem d_Mo_multiply_104 : decode b_Mo_multiply 104 = .ok (.iaload, 1) := by decide +kernel
theorem d_Mo_multiply_105 : decode b_Mo_multiply 105 = .ok (.iload_n 2, 1) := by decide +kernel
theorem d_Mo_multiply_106 : decode b_Mo_multiply 106 = .ok (.irem, 1) := by decide +kernel
theorem d_Mo_multiply_107 : decode b_Mo_multiply 107 = .ok (.iastore, 1) := by decide +kernel
theorem d_Mo_multiply_108 : decode b_Mo_multiply 108 = .ok (.return_, 1) := by decide +kernel
theorem d_Mo_add_0 : decode b_Mo_add 0 = .ok (.aload_n 0, 1) := by decide +kernel
theorem d_Mo_add_1 : decode b_Mo_add 1 = .ok (.getfield 117, 3) := by decide +kernel
theorem d_Mo_add_4 : decode b_Mo_add 4 = .ok (.iload_n 1, 1) := by decide +kernel
theorem d_Mo_add_5 : decode b_Mo_add 5 = .ok (.aload_n 0, 1) := by decide +kernel
theorem d_Mo_add_6 : decode b_Mo_add 6 = .ok (.getfield 123, 3) := by decide +kernel
theorem d_Mo_add_9 : decode b_Mo_add 9 = .ok (.iload_n 1, 1) := by decide +kernel
theorem d_Mo_add_10 : decode b_Mo_add 10 = .ok (.iaload, 1) := by decide +kernel
theorem d_Mo_add_11 : decode b_Mo_add 11 = .ok (.bipush 45, 2) := by decide +kernel
theorem d_Mo_add_13 : decode b_Mo_add 13 = .ok (.if_icmp .ne 19, 3) := by decide +kernel
theorem d_Mo_add_16 : decode b_Mo_add 16 = .ok (.aload_n 0, 1) := by decide +kernel
theorem d_Mo_add_17 : decode b_Mo_add 17 = .ok (.getfield 117, 3) := by decide +kernel
theorem d_Mo_add_20 : decode b_Mo_add 20 = .ok (.iload_n 1, 1) := by decide +kernel
theorem d_Mo_add_21 : decode b_Mo_add 21 = .ok (.iaload, 1) := by decide +kernel
theorem d_Mo_add_22 : decode b_Mo_add 22 = .ok (.aload_n 0, 1) := by decide +kernel
theorem d_Mo_add_23 : decode b_Mo_add 23 = .ok (.getfield 120, 3) := by decide +kernel
theorem d_Mo_add_26 : decode b_Mo_add 26 = .ok (.iload_n 1, 1) := by decide +kernel
theorem d_Mo_add_27 : decode b_Mo_add 27 = .ok (.iaload, 1) := by decide +kernel
theorem d_Mo_add_28 : decode b_Mo_add 28 = .ok (.isub, 1) := by decide +kernel
theorem d_Mo_add_29 : decode b_Mo_add 29 = .ok (.goto 16, 3) := by decide +kernel
theorem d_Mo_add_32 : decode b_Mo_add 32 = .ok (.aload_n 0, 1) := by decide +kernel
theorem d_Mo_add_33 : decode b_Mo_add 33 = .ok (.getfield 117, 3) := by decide +kernel
theorem d_Mo_add_36 : decode b_Mo_add 36 = .ok (.iload_n 1, 1) := by decide +kernel
theorem d_Mo_add_37 : decode b_Mo_add 37 = .ok (.iaload, 1) := by decide +kernel
theorem d_Mo_add_38 : decode b_Mo_add 38 = .ok (.aload_n 0, 1) := by decide +kernel
theorem d_Mo_add_39 : decode b_Mo_add 39 = .ok (.getfield 120, 3) := by decide +kernel
theorem d_Mo_add_42 : decode b_Mo_add 42 = .ok (.iload_n 1, 1) := by decide +kernel
theorem d_Mo_add_43 : decode b_Mo_add 43 = .ok (.iaload, 1) := by decide +kernel
theorem d_Mo_add_44 : decode b_Mo_add 44 = .ok (.iadd, 1) := by decide +kernel
theorem d_Mo_add_45 : decode b_Mo_add 45 = .ok (.iastore, 1) := by decide +kernel
theorem d_Mo_add_46 : decode b_Mo_add 46 = .ok (.return_, 1) := by decide +kernel
theorem d_Mo_openSum_0 : decode b_Mo_openSum 0 = .ok (.aload_n 0, 1) := by decide +kernel
theorem d_Mo_openSum_1 : decode b_Mo_openSum 1 = .ok (.getfield 117, 3) := by decide +kernel
theorem d_Mo_openSum_4 : decode b_Mo_openSum 4 = .ok (.iload_n 1, 1) := by decide +kernel
theorem d_Mo_openSum_5 : decode b_Mo_openSum 5 = .ok (.iconst 0, 1) := by decide +kernel
theorem d_Mo_openSum_6 : decode b_Mo_openSum 6 = .ok (.iastore, 1) := by decide +kernel
theorem d_Mo_openSum_7 : decode b_Mo_openSum 7 = .ok (.aload_n 0, 1) := by decide +kernel
theorem d_Mo_openSum_8 : decode b_Mo_openSum 8 = .ok (.getfield 123, 3) := by decide +kernel
theorem d_Mo_openSum_11 : decode b_Mo_openSum 11 = .ok (.iload_n 1, 1) := by decide +kernel
theorem d_Mo_openSum_12 : decode b_Mo_openSum 12 = .ok (.aload_n 0, 1) := by decide +kernel
theorem d_Mo_openSum_13 : decode b_Mo_openSum 13 = .ok (.getfield 32, 3) := by decide +kernel
theorem d_Mo_openSum_16 : decode b_Mo_openSum 16 = .ok (.aload_n 0, 1) := by decide +kernel
theorem d_Mo_openSum_17 : decode b_Mo_openSum 17 = .ok (.getfield 300, 3) := by decide +kernel
theorem d_Mo_openSum_20 : decode b_Mo_openSum 20 = .ok (.iaload, 1) := by decide +kernel
theorem d_Mo_openSum_21 : decode b_Mo_openSum 21 = .ok (.iastore, 1) := by decide +kernel
theorem d_Mo_openSum_22 : decode b_Mo_openSum 22 = .ok (.aload_n 0, 1) := by decide +kernel
theorem d_Mo_openSum_23 : decode b_Mo_openSum 23 = .ok (.getfield 126, 3) := by decide +kernel
theorem d_Mo_openSum_26 : decode b_Mo_openSum 26 = .ok (.iload_n 1, 1) := by decide +kernel
theorem d_Mo_openSum_27 : decode b_Mo_openSum 27 = .ok (.iconst 0, 1) := by decide +kernel
theorem d_Mo_openSum_28 : decode b_Mo_openSum 28 = .ok (.iastore, 1) := by decide +kernel
theorem d_Mo_openSum_29 : decode b_Mo_openSum 29 = .ok (.aload_n 0, 1) := by decide +kernel
theorem d_Mo_openSum_30 : decode b_Mo_openSum 30 = .ok (.getfield 32, 3) := by decide +kernel
theorem d_Mo_openSum_33 : decode b_Mo_openSum 33 = .ok (.aload_n 0, 1) := by decide +kernel
theorem d_Mo_openSum_34 : decode b_Mo_openSum 34 = .ok (.getfield 300, 3) := by decide +kernel
theorem d_Mo_openSum_37 : decode b_Mo_openSum 37 = .ok (.iaload, 1) := by decide +kernel
theorem d_Mo_openSum_38 : decode b_Mo_openSum 38 = .ok (.bipush 45, 2) := by decide +kernel
theorem d_Mo_openSum_40 : decode b_Mo_openSum 40 = .ok (.if_icmp .ne 13, 3) := by decide +kernel
theorem d_Mo_openSum_43 : decode b_Mo_openSum 43 = .ok (.aload_n 0, 1) := by decide +kernel
theorem d_Mo_openSum_44 : decode b_Mo_openSum 44 = .ok (.dup, 1) := by decide +kernel
theorem d_Mo_openSum_45 : decode b_Mo_openSum 45 = .ok (.getfield 300, 3) := by decide +kernel
theorem d_Mo_openSum_48 : decode b_Mo_openSum 48 = .ok (.iconst 1, 1) := by decide +kernel
theorem d_Mo_openSum_49 : decode b_Mo_openSum 49 = .ok (.iadd, 1) := by decide +kernel
theorem d_Mo_openSum_50 : decode b_Mo_openSum 50 = .ok (.putfield 300, 3) := by decide +kernel
theorem d_Mo_openSum_53 : decode b_Mo_openSum 53 = .ok (.return_, 1) := by decide +kernel
theorem d_Mo_evaluate_0 : decode b_Mo_evaluate 0 = .ok (.iconst 0, 1) := by decide +kernel
theorem d_Mo_evaluate_1 : decode b_Mo_evaluate 1 = .ok (.istore_n 1, 1) := by decide +kernel
theorem d_Mo_evaluate_2 : decode b_Mo_evaluate 2 = .ok (.aload_n 0, 1) := by decide +kernel
theorem d_Mo_evaluate_3 : decode b_Mo_evaluate 3 = .ok (.iconst 0, 1) := by decide +kernel
theorem d_Mo_evaluate_4 : decode b_Mo_evaluate 4 = .ok (.invokevirtual 303, 3) := by decide +kernel
theorem d_Mo_evaluate_7 : decode b_Mo_evaluate 7 = .ok (.iconst 1, 1) := by decide +kernel
theorem d_Mo_evaluate_8 : decode b_Mo_evaluate 8 = .ok (.istore_n 2, 1) := by decide +kernel
theorem d_Mo_evaluate_9 : decode b_Mo_evaluate 9 = .ok (.iload_n 2, 1) := by decide +kernel
theorem d_Mo_evaluate_10 : decode b_Mo_evaluate 10 = .ok (.ifCond .eq 233, 3) := by decide +kernel
theorem d_Mo_evaluate_13 : decode b_Mo_evaluate 13 = .ok (.aload_n 0, 1) := by decide +kernel
theorem d_Mo_evaluate_14 : decode b_Mo_evaluate 14 = .ok (.getfield 297, 3) := by decide +kernel
theorem d_Mo_evaluate_17 : decode b_Mo_evaluate 17 = .ok (.ifCond .ne 226, 3) := by decide +kernel
theorem d_Mo_evaluate_20 : decode b_Mo_evaluate 20 = .ok (.aload_n 0, 1) := by decide +kernel
theorem d_Mo_evaluate_21 : decode b_Mo_evaluate 21 = .ok (.getfield 32, 3) := by decide +kernel
theorem d_Mo_evaluate_24 : decode b_Mo_evaluate 24 = .ok (.aload_n 0, 1) := by decide +kernel
theorem d_Mo_evaluate_25 : decode b_Mo_evaluate 25 = .ok (.getfield 300, 3) := by decide +kernel
theorem d_Mo_evaluate_28 : decode b_Mo_evaluate 28 = .ok (.iaload, 1) := by decide +kernel
theorem d_Mo_evaluate_29 : decode b_Mo_evaluate 29 = .ok (.istore_n 3, 1) := by decide +kernel
theorem d_Mo_evaluate_30 : decode b_Mo_evaluate 30 = .ok (.iload_n 3, 1) := by decide +kernel
theorem d_Mo_evaluate_31 : decode b_Mo_evaluate 31 = .ok (.bipush 40, 2) := by decide +kernel
theorem d_Mo_evaluate_33 : decode b_Mo_evaluate 33 = .ok (.if_icmp .ne 24, 3) := by decide +kernel
theorem d_Mo_evaluate_36 : decode b_Mo_evaluate 36 = .ok (.aload_n 0, 1) := by decide +kernel
theorem d_Mo_evaluate_37 : decode b_Mo_evaluate 37 = .ok (.dup, 1) := by decide +kernel
theorem d_Mo_evaluate_38 : decode b_Mo_evaluate 38 = .ok (.getfield 300, 3) := by decide +kernel
theorem d_Mo_evaluate_41 : decode b_Mo_evaluate 41 = .ok (.iconst 1, 1) := by decide +kernel
theorem d_Mo_evaluate_42 : decode b_Mo_evaluate 42 = .ok (.iadd, 1) := by decide +kernel
theorem d_Mo_evaluate_43 : decode b_Mo_evaluate 43 = .ok (.putfield 300, 3) := by decide +kernel
theorem d_Mo_evaluate_46 : decode b_Mo_evaluate 46 = .ok (.iinc 1 1, 3) := by decide +kernel
theorem d_Mo_evaluate_49 : decode b_Mo_evaluate 49 = .ok (.aload_n 0, 1) := by decide +kernel
theorem d_Mo_evaluate_50 : decode b_Mo_evaluate 50 = .ok (.iload_n 1, 1) := by decide +kernel
theorem d_Mo_evaluate_51 : decode b_Mo_evaluate 51 = .ok (.invokevirtual 303, 3) := by decide +kernel
theorem d_Mo_evaluate_54 : decode b_Mo_evaluate 54 = .ok (.goto (-45), 3) := by decide +kernel
theorem d_Mo_evaluate_57 : decode b_Mo_evaluate 57 = .ok (.aload_n 0, 1) := by decide +kernel
theorem d_Mo_evaluate_58 : decode b_Mo_evaluate 58 = .ok (.iload_n 1, 1) := by decide +kernel
theorem d_Mo_evaluate_59 : decode b_Mo_evaluate 59 = .ok (.iload_n 3, 1) := by decide +kernel
theorem d_Mo_evaluate_60 : decode b_Mo_evaluate 60 = .ok (.iconst 2, 1) := by decide +kernel
theorem d_Mo_evaluate_61 : decode b_Mo_evaluate 61 = .ok (.if_icmp .ne 15, 3) := by decide +kernel
theorem d_Mo_evaluate_64 : decode b_Mo_evaluate 64 = .ok (.aload_n 0, 1) := by decide +kernel
theorem d_Mo_evaluate_65 : decode b_Mo_evaluate 65 = .ok (.getfield 35, 3) := by decide +kernel
theorem d_Mo_evaluate_68 : decode b_Mo_evaluate 68 = .ok (.aload_n 0, 1) := by decide +kernel
theorem d_Mo_evaluate_69 : decode b_Mo_evaluate 69 = .ok (.getfield 300, 3) := by decide +kernel
theorem d_Mo_evaluate_72 : decode b_Mo_evaluate 72 = .ok (.iaload, 1) := by decide +kernel
theorem d_Mo_evaluate_73 : decode b_Mo_evaluate 73 = .ok (.goto 21, 3) := by decide +kernel
theorem d_Mo_evaluate_76 : decode b_Mo_evaluate 76 = .ok (.aload_n 0, 1) := by decide +kernel
theorem d_Mo_evaluate_77 : decode b_Mo_evaluate 77 = .ok (.getfield 90, 3) := by decide +kernel
theorem d_Mo_evaluate_80 : decode b_Mo_evaluate 80 = .ok (.aload_n 0, 1) := by decide +kernel
theorem d_Mo_evaluate_81 : decode b_Mo_evaluate 81 = .ok (.aload_n 0, 1) := by decide +kernel
theorem d_Mo_evaluate_82 : decode b_Mo_evaluate 82 = .ok (.getfield 38, 3) := by decide +kernel
theorem d_Mo_evaluate_85 : decode b_Mo_evaluate 85 = .ok (.aload_n 0, 1) := by decide +kernel
theorem d_Mo_evaluate_86 : decode b_Mo_evaluate 86 = .ok (.getfield 300, 3) := by decide +kernel
theorem d_Mo_evaluate_89 : decode b_Mo_evaluate 89 = .ok (.iaload, 1) := by decide +kernel
theorem d_Mo_evaluate_90 : decode b_Mo_evaluate 90 = .ok (.invokevirtual 306, 3) := by decide +kernel
theorem d_Mo_evaluate_93 : decode b_Mo_evaluate 93 = .ok (.iaload, 1) := by decide +kernel
theorem d_Mo_evaluate_94 : decode b_Mo_evaluate 94 = .ok (.invokevirtual 309, 3) := by decide +kernel
theorem d_Mo_evaluate_97 : decode b_Mo_evaluate 97 = .ok (.aload_n 0, 1) := by decide +kernel
theorem d_Mo_evaluate_98 : decode b_Mo_evaluate 98 = .ok (.dup, 1) := by decide +kernel
theorem d_Mo_evaluate_99 : decode b_Mo_evaluate 99 = .ok (.getfield 300, 3) := by decide +kernel
theorem d_Mo_evaluate_102 : decode b_Mo_evaluate 102 = .ok (.iconst 1, 1) := by decide +kernel
theorem d_Mo_evaluate_103 : decode b_Mo_evaluate 103 = .ok (.iadd, 1) := by decide +kernel
theorem d_Mo_evaluate_104 : decode b_Mo_evaluate 104 = .ok (.putfield 300, 3) := by decide +kernel
theorem d_Mo_evaluate_107 : decode b_Mo_evaluate 107 = .ok (.iload_n 1, 1) := by decide +kernel
theorem d_Mo_evaluate_108 : decode b_Mo_evaluate 108 = .ok (.ifCond .le 58, 3) := by decide +kernel
theorem d_Mo_evaluate_111 : decode b_Mo_evaluate 111 = .ok (.aload_n 0, 1) := by decide +kernel
theorem d_Mo_evaluate_112 : decode b_Mo_evaluate 112 = .ok (.getfield 32, 3) := by decide +kernel
theorem d_Mo_evaluate_115 : decode b_Mo_evaluate 115 = .ok (.aload_n 0, 1) := by decide +kernel
theorem d_Mo_evaluate_116 : decode b_Mo_evaluate 116 = .ok (.getfield 300, 3) := by decide +kernel
theorem d_Mo_evaluate_119 : decode b_Mo_evaluate 119 = .ok (.iaload, 1) := by decide +kernel
theorem d_Mo_evaluate_120 : decode b_Mo_evaluate 120 = .ok (.bipush 41, 2) := by decide +kernel
theorem d_Mo_evaluate_122 : decode b_Mo_evaluate 122 = .ok (.if_icmp .ne 44, 3) := by decide +kernel
theorem d_Mo_evaluate_125 : decode b_Mo_evaluate 125 = .ok (.aload_n 0, 1) := by decide +kernel
theorem d_Mo_evaluate_126 : decode b_Mo_evaluate 126 = .ok (.getfield 297, 3) := by decide +kernel
end
section
theorem d_Mo_evaluate_129 : decode b_Mo_evaluate 129 = .ok (.ifCond .ne 37, 3) := by decide +kernel
theorem d_Mo_evaluate_132 : decode b_Mo_evaluate 132 = .ok (.aload_n 0, 1) := by decide +kernel
theorem d_Mo_evaluate_133 : decode b_Mo_evaluate 133 = .ok (.iload_n 1, 1) := by decide +kernel
theorem d_Mo_evaluate_134 : decode b_Mo_evaluate 134 = .ok (.invokevirtual 312, 3) := by decide +kernel
theorem d_Mo_evaluate_137 : decode b_Mo_evaluate 137 = .ok (.aload_n 0, 1) := by decide +kernel
theorem d_Mo_evaluate_138 : decode b_Mo_evaluate 138 = .ok (.dup, 1) := by decide +kernel
theorem d_Mo_evaluate_139 : decode b_Mo_evaluate 139 = .ok (.getfield 300, 3) := by decide +kernel
theorem d_Mo_evaluate_142 : decode b_Mo_evaluate 142 = .ok (.iconst 1, 1) := by decide +kernel
theorem d_Mo_evaluate_143 : decode b_Mo_evaluate 143 = .ok (.iadd, 1) := by decide +kernel
theorem d_Mo_evaluate_144 : decode b_Mo_evaluate 144 = .ok (.putfield 300, 3) := by decide +kernel
theorem d_Mo_evaluate_147 : decode b_Mo_evaluate 147 = .ok (.iinc 1 (-1), 3) := by decide +kernel
theorem d_Mo_evaluate_150 : decode b_Mo_evaluate 150 = .ok (.aload_n 0, 1) := by decide +kernel
theorem d_Mo_evaluate_151 : decode b_Mo_evaluate 151 = .ok (.iload_n 1, 1) := by decide +kernel
theorem d_Mo_evaluate_152 : decode b_Mo_evaluate 152 = .ok (.aload_n 0, 1) := by decide +kernel
theorem d_Mo_evaluate_153 : decode b_Mo_evaluate 153 = .ok (.getfield 117, 3) := by decide +kernel
theorem d_Mo_evaluate_156 : decode b_Mo_evaluate 156 = .ok (.iload_n 1, 1) := by decide +kernel
theorem d_Mo_evaluate_157 : decode b_Mo_evaluate 157 = .ok (.iconst 1, 1) := by decide +kernel
theorem d_Mo_evaluate_158 : decode b_Mo_evaluate 158 = .ok (.iadd, 1) := by decide +kernel
theorem d_Mo_evaluate_159 : decode b_Mo_evaluate 159 = .ok (.iaload, 1) := by decide +kernel
theorem d_Mo_evaluate_160 : decode b_Mo_evaluate 160 = .ok (.invokevirtual 309, 3) := by decide +kernel
theorem d_Mo_evaluate_163 : decode b_Mo_evaluate 163 = .ok (.goto (-56), 3) := by decide +kernel
theorem d_Mo_evaluate_166 : decode b_Mo_evaluate 166 = .ok (.aload_n 0, 1) := by decide +kernel
theorem d_Mo_evaluate_167 : decode b_Mo_evaluate 167 = .ok (.getfield 32, 3) := by decide +kernel
theorem d_Mo_evaluate_170 : decode b_Mo_evaluate 170 = .ok (.aload_n 0, 1) := by decide +kernel
theorem d_Mo_evaluate_171 : decode b_Mo_evaluate 171 = .ok (.getfield 300, 3) := by decide +kernel
theorem d_Mo_evaluate_174 : decode b_Mo_evaluate 174 = .ok (.iaload, 1) := by decide +kernel
theorem d_Mo_evaluate_175 : decode b_Mo_evaluate 175 = .ok (.istore_n 3, 1) := by decide +kernel
theorem d_Mo_evaluate_176 : decode b_Mo_evaluate 176 = .ok (.aload_n 0, 1) := by decide +kernel
theorem d_Mo_evaluate_177 : decode b_Mo_evaluate 177 = .ok (.iload_n 3, 1) := by decide +kernel
theorem d_Mo_evaluate_178 : decode b_Mo_evaluate 178 = .ok (.invokevirtual 239, 3) := by decide +kernel
theorem d_Mo_evaluate_181 : decode b_Mo_evaluate 181 = .ok (.istore_n 2, 1) := by decide +kernel
theorem d_Mo_evaluate_182 : decode b_Mo_evaluate 182 = .ok (.iload_n 2, 1) := by decide +kernel
theorem d_Mo_evaluate_183 : decode b_Mo_evaluate 183 = .ok (.ifCond .ne 6, 3) := by decide +kernel
theorem d_Mo_evaluate_186 : decode b_Mo_evaluate 186 = .ok (.goto (-177), 3) := by decide +kernel
theorem d_Mo_evaluate_189 : decode b_Mo_evaluate 189 = .ok (.iload_n 3, 1) := by decide +kernel
theorem d_Mo_evaluate_190 : decode b_Mo_evaluate 190 = .ok (.bipush 43, 2) := by decide +kernel
theorem d_Mo_evaluate_192 : decode b_Mo_evaluate 192 = .ok (.if_icmp .eq 9, 3) := by decide +kernel
theorem d_Mo_evaluate_195 : decode b_Mo_evaluate 195 = .ok (.iload_n 3, 1) := by decide +kernel
theorem d_Mo_evaluate_196 : decode b_Mo_evaluate 196 = .ok (.bipush 45, 2) := by decide +kernel
theorem d_Mo_evaluate_198 : decode b_Mo_evaluate 198 = .ok (.if_icmp .ne 25, 3) := by decide +kernel
theorem d_Mo_evaluate_201 : decode b_Mo_evaluate 201 = .ok (.aload_n 0, 1) := by decide +kernel
theorem d_Mo_evaluate_202 : decode b_Mo_evaluate 202 = .ok (.iload_n 1, 1) := by decide +kernel
theorem d_Mo_evaluate_203 : decode b_Mo_evaluate 203 = .ok (.invokevirtual 312, 3) := by decide +kernel
theorem d_Mo_evaluate_206 : decode b_Mo_evaluate 206 = .ok (.aload_n 0, 1) := by decide +kernel
theorem d_Mo_evaluate_207 : decode b_Mo_evaluate 207 = .ok (.getfield 123, 3) := by decide +kernel
theorem d_Mo_evaluate_210 : decode b_Mo_evaluate 210 = .ok (.iload_n 1, 1) := by decide +kernel
theorem d_Mo_evaluate_211 : decode b_Mo_evaluate 211 = .ok (.iload_n 3, 1) := by decide +kernel
theorem d_Mo_evaluate_212 : decode b_Mo_evaluate 212 = .ok (.iastore, 1) := by decide +kernel
theorem d_Mo_evaluate_213 : decode b_Mo_evaluate 213 = .ok (.aload_n 0, 1) := by decide +kernel
theorem d_Mo_evaluate_214 : decode b_Mo_evaluate 214 = .ok (.getfield 126, 3) := by decide +kernel
theorem d_Mo_evaluate_217 : decode b_Mo_evaluate 217 = .ok (.iload_n 1, 1) := by decide +kernel
theorem d_Mo_evaluate_218 : decode b_Mo_evaluate 218 = .ok (.iconst 0, 1) := by decide +kernel
theorem d_Mo_evaluate_219 : decode b_Mo_evaluate 219 = .ok (.iastore, 1) := by decide +kernel
theorem d_Mo_evaluate_220 : decode b_Mo_evaluate 220 = .ok (.goto 10, 3) := by decide +kernel
theorem d_Mo_evaluate_223 : decode b_Mo_evaluate 223 = .ok (.aload_n 0, 1) := by decide +kernel
theorem d_Mo_evaluate_224 : decode b_Mo_evaluate 224 = .ok (.getfield 126, 3) := by decide +kernel
theorem d_Mo_evaluate_227 : decode b_Mo_evaluate 227 = .ok (.iload_n 1, 1) := by decide +kernel
theorem d_Mo_evaluate_228 : decode b_Mo_evaluate 228 = .ok (.iload_n 3, 1) := by decide +kernel
theorem d_Mo_evaluate_229 : decode b_Mo_evaluate 229 = .ok (.iastore, 1) := by decide +kernel
theorem d_Mo_evaluate_230 : decode b_Mo_evaluate 230 = .ok (.aload_n 0, 1) := by decide +kernel
theorem d_Mo_evaluate_231 : decode b_Mo_evaluate 231 = .ok (.dup, 1) := by decide +kernel
theorem d_Mo_evaluate_232 : decode b_Mo_evaluate 232 = .ok (.getfield 300, 3) := by decide +kernel
theorem d_Mo_evaluate_235 : decode b_Mo_evaluate 235 = .ok (.iconst 1, 1) := by decide +kernel
theorem d_Mo_evaluate_236 : decode b_Mo_evaluate 236 = .ok (.iadd, 1) := by decide +kernel
theorem d_Mo_evaluate_237 : decode b_Mo_evaluate 237 = .ok (.putfield 300, 3) := by decide +kernel
theorem d_Mo_evaluate_240 : decode b_Mo_evaluate 240 = .ok (.goto (-231), 3) := by decide +kernel
theorem d_Mo_evaluate_243 : decode b_Mo_evaluate 243 = .ok (.aload_n 0, 1) := by decide +kernel
theorem d_Mo_evaluate_244 : decode b_Mo_evaluate 244 = .ok (.iload_n 1, 1) := by decide +kernel
theorem d_Mo_evaluate_245 : decode b_Mo_evaluate 245 = .ok (.invokevirtual 312, 3) := by decide +kernel
theorem d_Mo_evaluate_248 : decode b_Mo_evaluate 248 = .ok (.aload_n 0, 1) := by decide +kernel
theorem d_Mo_evaluate_249 : decode b_Mo_evaluate 249 = .ok (.getfield 117, 3) := by decide +kernel
theorem d_Mo_evaluate_252 : decode b_Mo_evaluate 252 = .ok (.iload_n 1, 1) := by decide +kernel
theorem d_Mo_evaluate_253 : decode b_Mo_evaluate 253 = .ok (.iaload, 1) := by decide +kernel
theorem d_Mo_evaluate_254 : decode b_Mo_evaluate 254 = .ok (.ireturn, 1) := by decide +kernel
theorem d_Mo_step_0 : decode b_Mo_step 0 = .ok (.aload_n 0, 1) := by decide +kernel
theorem d_Mo_step_1 : decode b_Mo_step 1 = .ok (.getfield 315, 3) := by decide +kernel
theorem d_Mo_step_4 : decode b_Mo_step 4 = .ok (.sipush 400, 3) := by decide +kernel
theorem d_Mo_step_7 : decode b_Mo_step 7 = .ok (.if_icmp .ne 11, 3) := by decide +kernel
theorem d_Mo_step_10 : decode b_Mo_step 10 = .ok (.aload_n 0, 1) := by decide +kernel
theorem d_Mo_step_11 : decode b_Mo_step 11 = .ok (.iconst 3, 1) := by decide +kernel
theorem d_Mo_step_12 : decode b_Mo_step 12 = .ok (.putfield 297, 3) := by decide +kernel
theorem d_Mo_step_15 : decode b_Mo_step 15 = .ok (.goto 13, 3) := by decide +kernel
theorem d_Mo_step_18 : decode b_Mo_step 18 = .ok (.aload_n 0, 1) := by decide +kernel
theorem d_Mo_step_19 : decode b_Mo_step 19 = .ok (.dup, 1) := by decide +kernel
theorem d_Mo_step_20 : decode b_Mo_step 20 = .ok (.getfield 315, 3) := by decide +kernel
theorem d_Mo_step_23 : decode b_Mo_step 23 = .ok (.iconst 1, 1) := by decide +kernel
theorem d_Mo_step_24 : decode b_Mo_step 24 = .ok (.iadd, 1) := by decide +kernel
theorem d_Mo_step_25 : decode b_Mo_step 25 = .ok (.putfield 315, 3) := by decide +kernel
theorem d_Mo_step_28 : decode b_Mo_step 28 = .ok (.return_, 1) := by decide +kernel
theorem d_Mo_push_0 : decode b_Mo_push 0 = .ok (.aload_n 0, 1) := by decide +kernel
theorem d_Mo_push_1 : decode b_Mo_push 1 = .ok (.getfield 108, 3) := by decide +kernel
theorem d_Mo_push_4 : decode b_Mo_push 4 = .ok (.bipush 10, 2) := by decide +kernel
theorem d_Mo_push_6 : decode b_Mo_push 6 = .ok (.aload_n 0, 1) := by decide +kernel
theorem d_Mo_push_7 : decode b_Mo_push 7 = .ok (.getfield 288, 3) := by decide +kernel
theorem d_Mo_push_10 : decode b_Mo_push 10 = .ok (.imul, 1) := by decide +kernel
theorem d_Mo_push_11 : decode b_Mo_push 11 = .ok (.aload_n 0, 1) := by decide +kernel
theorem d_Mo_push_12 : decode b_Mo_push 12 = .ok (.getfield 105, 3) := by decide +kernel
theorem d_Mo_push_15 : decode b_Mo_push 15 = .ok (.aload_n 0, 1) := by decide +kernel
theorem d_Mo_push_16 : decode b_Mo_push 16 = .ok (.getfield 288, 3) := by decide +kernel
theorem d_Mo_push_19 : decode b_Mo_push 19 = .ok (.iaload, 1) := by decide +kernel
theorem d_Mo_push_20 : decode b_Mo_push 20 = .ok (.iadd, 1) := by decide +kernel
theorem d_Mo_push_21 : decode b_Mo_push 21 = .ok (.iload_n 1, 1) := by decide +kernel
theorem d_Mo_push_22 : decode b_Mo_push 22 = .ok (.iastore, 1) := by decide +kernel
theorem d_Mo_push_23 : decode b_Mo_push 23 = .ok (.aload_n 0, 1) := by decide +kernel
theorem d_Mo_push_24 : decode b_Mo_push 24 = .ok (.getfield 111, 3) := by decide +kernel
theorem d_Mo_push_27 : decode b_Mo_push 27 = .ok (.bipush 10, 2) := by decide +kernel
theorem d_Mo_push_29 : decode b_Mo_push 29 = .ok (.aload_n 0, 1) := by decide +kernel
theorem d_Mo_push_30 : decode b_Mo_push 30 = .ok (.getfield 288, 3) := by decide +kernel
theorem d_Mo_push_33 : decode b_Mo_push 33 = .ok (.imul, 1) := by decide +kernel
theorem d_Mo_push_34 : decode b_Mo_push 34 = .ok (.aload_n 0, 1) := by decide +kernel
theorem d_Mo_push_35 : decode b_Mo_push 35 = .ok (.getfield 105, 3) := by decide +kernel
theorem d_Mo_push_38 : decode b_Mo_push 38 = .ok (.aload_n 0, 1) := by decide +kernel
theorem d_Mo_push_39 : decode b_Mo_push 39 = .ok (.getfield 288, 3) := by decide +kernel
theorem d_Mo_push_42 : decode b_Mo_push 42 = .ok (.iaload, 1) := by decide +kernel
theorem d_Mo_push_43 : decode b_Mo_push 43 = .ok (.iadd, 1) := by decide +kernel
theorem d_Mo_push_44 : decode b_Mo_push 44 = .ok (.iload_n 2, 1) := by decide +kernel
theorem d_Mo_push_45 : decode b_Mo_push 45 = .ok (.iastore, 1) := by decide +kernel
theorem d_Mo_push_46 : decode b_Mo_push 46 = .ok (.aload_n 0, 1) := by decide +kernel
theorem d_Mo_push_47 : decode b_Mo_push 47 = .ok (.getfield 105, 3) := by decide +kernel
theorem d_Mo_push_50 : decode b_Mo_push 50 = .ok (.aload_n 0, 1) := by decide +kernel
theorem d_Mo_push_51 : decode b_Mo_push 51 = .ok (.getfield 288, 3) := by decide +kernel
theorem d_Mo_push_54 : decode b_Mo_push 54 = .ok (.dup2, 1) := by decide +kernel
theorem d_Mo_push_55 : decode b_Mo_push 55 = .ok (.iaload, 1) := by decide +kernel
theorem d_Mo_push_56 : decode b_Mo_push 56 = .ok (.iconst 1, 1) := by decide +kernel
theorem d_Mo_push_57 : decode b_Mo_push 57 = .ok (.iadd, 1) := by decide +kernel
theorem d_Mo_push_58 : decode b_Mo_push 58 = .ok (.iastore, 1) := by decide +kernel
theorem d_Mo_push_59 : decode b_Mo_push 59 = .ok (.return_, 1) := by decide +kernel
theorem d_Mo_holds_0 : decode b_Mo_holds 0 = .ok (.aload_n 0, 1) := by decide +kernel
theorem d_Mo_holds_1 : decode b_Mo_holds 1 = .ok (.invokevirtual 318, 3) := by decide +kernel
theorem d_Mo_holds_4 : decode b_Mo_holds 4 = .ok (.istore_n 1, 1) := by decide +kernel
theorem d_Mo_holds_5 : decode b_Mo_holds 5 = .ok (.aload_n 0, 1) := by decide +kernel
theorem d_Mo_holds_6 : decode b_Mo_holds 6 = .ok (.getfield 32, 3) := by decide +kernel
theorem d_Mo_holds_9 : decode b_Mo_holds 9 = .ok (.aload_n 0, 1) := by decide +kernel
theorem d_Mo_holds_10 : decode b_Mo_holds 10 = .ok (.getfield 300, 3) := by decide +kernel
theorem d_Mo_holds_13 : decode b_Mo_holds 13 = .ok (.iaload, 1) := by decide +kernel
theorem d_Mo_holds_14 : decode b_Mo_holds 14 = .ok (.istore_n 2, 1) := by decide +kernel
theorem d_Mo_holds_15 : decode b_Mo_holds 15 = .ok (.aload_n 0, 1) := by decide +kernel
theorem d_Mo_holds_16 : decode b_Mo_holds 16 = .ok (.dup, 1) := by decide +kernel
theorem d_Mo_holds_17 : decode b_Mo_holds 17 = .ok (.getfield 300, 3) := by decide +kernel
theorem d_Mo_holds_20 : decode b_Mo_holds 20 = .ok (.iconst 1, 1) := by decide +kernel
theorem d_Mo_holds_21 : decode b_Mo_holds 21 = .ok (.iadd, 1) := by decide +kernel
theorem d_Mo_holds_22 : decode b_Mo_holds 22 = .ok (.putfield 300, 3) := by decide +kernel
theorem d_Mo_holds_25 : decode b_Mo_holds 25 = .ok (.aload_n 0, 1) := by decide +kernel
theorem d_Mo_holds_26 : decode b_Mo_holds 26 = .ok (.getfield 297, 3) := by decide +kernel
theorem d_Mo_holds_29 : decode b_Mo_holds 29 = .ok (.ifCond .eq 5, 3) := by decide +kernel
theorem d_Mo_holds_32 : decode b_Mo_holds 32 = .ok (.iconst 0, 1) := by decide +kernel
theorem d_Mo_holds_33 : decode b_Mo_holds 33 = .ok (.ireturn, 1) := by decide +kernel
theorem d_Mo_holds_34 : decode b_Mo_holds 34 = .ok (.aload_n 0, 1) := by decide +kernel
theorem d_Mo_holds_35 : decode b_Mo_holds 35 = .ok (.invokevirtual 318, 3) := by decide +kernel
theorem d_Mo_holds_38 : decode b_Mo_holds 38 = .ok (.istore_n 3, 1) := by decide +kernel
theorem d_Mo_holds_39 : decode b_Mo_holds 39 = .ok (.iload_n 2, 1) := by decide +kernel
theorem d_Mo_holds_40 : decode b_Mo_holds 40 = .ok (.bipush 61, 2) := by decide +kernel
theorem d_Mo_holds_42 : decode b_Mo_holds 42 = .ok (.if_icmp .ne 16, 3) := by decide +kernel
theorem d_Mo_holds_45 : decode b_Mo_holds 45 = .ok (.iload_n 1, 1) := by decide +kernel
theorem d_Mo_holds_46 : decode b_Mo_holds 46 = .ok (.iload_n 3, 1) := by decide +kernel
theorem d_Mo_holds_47 : decode b_Mo_holds 47 = .ok (.if_icmp .ne 7, 3) := by decide +kernel
theorem d_Mo_holds_50 : decode b_Mo_holds 50 = .ok (.iconst 1, 1) := by decide +kernel
theorem d_Mo_holds_51 : decode b_Mo_holds 51 = .ok (.goto 36, 3) := by decide +kernel
theorem d_Mo_holds_54 : decode b_Mo_holds 54 = .ok (.iconst 0, 1) := by decide +kernel
theorem d_Mo_holds_55 : decode b_Mo_holds 55 = .ok (.goto 32, 3) := by decide +kernel
theorem d_Mo_holds_58 : decode b_Mo_holds 58 = .ok (.iload_n 2, 1) := by decide +kernel
theorem d_Mo_holds_59 : decode b_Mo_holds 59 = .ok (.bipush 60, 2) := by decide +kernel
theorem d_Mo_holds_61 : decode b_Mo_holds 61 = .ok (.if_icmp .ne 16, 3) := by decide +kernel
theorem d_Mo_holds_64 : decode b_Mo_holds 64 = .ok (.iload_n 1, 1) := by decide +kernel
theorem d_Mo_holds_65 : decode b_Mo_holds 65 = .ok (.iload_n 3, 1) := by decide +kernel
theorem d_Mo_holds_66 : decode b_Mo_holds 66 = .ok (.if_icmp .ge 7, 3) := by decide +kernel
theorem d_Mo_holds_69 : decode b_Mo_holds 69 = .ok (.iconst 1, 1) := by decide +kernel
theorem d_Mo_holds_70 : decode b_Mo_holds 70 = .ok (.goto 17, 3) := by decide +kernel
theorem d_Mo_holds_73 : decode b_Mo_holds 73 = .ok (.iconst 0, 1) := by decide +kernel
theorem d_Mo_holds_74 : decode b_Mo_holds 74 = .ok (.goto 13, 3) := by decide +kernel
theorem d_Mo_holds_77 : decode b_Mo_holds 77 = .ok (.iload_n 1, 1) := by decide +kernel
theorem d_Mo_holds_78 : decode b_Mo_holds 78 = .ok (.iload_n 3, 1) := by decide +kernel
theorem d_Mo_holds_79 : decode b_Mo_holds 79 = .ok (.if_icmp .le 7, 3) := by decide +kernel
theorem d_Mo_holds_82 : decode b_Mo_holds 82 = .ok (.iconst 1, 1) := by decide +kernel
theorem d_Mo_holds_83 : decode b_Mo_holds 83 = .ok (.goto 4, 3) := by decide +kernel
theorem d_Mo_holds_86 : decode b_Mo_holds 86 = .ok (.iconst 0, 1) := by decide +kernel
theorem d_Mo_holds_87 : decode b_Mo_holds 87 = .ok (.ireturn, 1) := by decide +kernel
theorem d_Mo_enterCall_0 : decode b_Mo_enterCall 0 = .ok (.aload_n 0, 1) := by decide +kernel
theorem d_Mo_enterCall_1 : decode b_Mo_enterCall 1 = .ok (.getfield 78, 3) := by decide +kernel
theorem d_Mo_enterCall_4 : decode b_Mo_enterCall 4 = .ok (.iload_n 1, 1) := by decide +kernel
theorem d_Mo_enterCall_5 : decode b_Mo_enterCall 5 = .ok (.iaload, 1) := by decide +kernel
theorem d_Mo_enterCall_6 : decode b_Mo_enterCall 6 = .ok (.istore_n 2, 1) := by decide +kernel
theorem d_Mo_enterCall_7 : decode b_Mo_enterCall 7 = .ok (.iconst 0, 1) := by decide +kernel
theorem d_Mo_enterCall_8 : decode b_Mo_enterCall 8 = .ok (.istore_n 3, 1) := by decide +kernel
theorem d_Mo_enterCall_9 : decode b_Mo_enterCall 9 = .ok (.iload_n 3, 1) := by decide +kernel
theorem d_Mo_enterCall_10 : decode b_Mo_enterCall 10 = .ok (.iload_n 2, 1) := by decide +kernel
theorem d_Mo_enterCall_11 : decode b_Mo_enterCall 11 = .ok (.if_icmp .ge 82, 3) := by decide +kernel
theorem d_Mo_enterCall_14 : decode b_Mo_enterCall 14 = .ok (.aload_n 0, 1) := by decide +kernel
theorem d_Mo_enterCall_15 : decode b_Mo_enterCall 15 = .ok (.getfield 297, 3) := by decide +kernel
theorem d_Mo_enterCall_18 : decode b_Mo_enterCall 18 = .ok (.ifCond .ne 75, 3) := by decide +kernel
theorem d_Mo_enterCall_21 : decode b_Mo_enterCall 21 = .ok (.aload_n 0, 1) := by decide +kernel
theorem d_Mo_enterCall_22 : decode b_Mo_enterCall 22 = .ok (.dup, 1) := by decide +kernel
theorem d_Mo_enterCall_23 : decode b_Mo_enterCall 23 = .ok (.getfield 300, 3) := by decide +kernel
theorem d_Mo_enterCall_26 : decode b_Mo_enterCall 26 = .ok (.iconst 1, 1) := by decide +kernel
theorem d_Mo_enterCall_27 : decode b_Mo_enterCall 27 = .ok (.iadd, 1) := by decide +kernel
theorem d_Mo_enterCall_28 : decode b_Mo_enterCall 28 = .ok (.putfield 300, 3) := by decide +kernel
theorem d_Mo_enterCall_31 : decode b_Mo_enterCall 31 = .ok (.aload_n 0, 1) := by decide +kernel
theorem d_Mo_enterCall_32 : decode b_Mo_enterCall 32 = .ok (.getfield 69, 3) := by decide +kernel
theorem d_Mo_enterCall_35 : decode b_Mo_enterCall 35 = .ok (.iload_n 1, 1) := by decide +kernel
theorem d_Mo_enterCall_36 : decode b_Mo_enterCall 36 = .ok (.iconst 1, 1) := by decide +kernel
theorem d_Mo_enterCall_37 : decode b_Mo_enterCall 37 = .ok (.iadd, 1) := by decide +kernel
theorem d_Mo_enterCall_38 : decode b_Mo_enterCall 38 = .ok (.iload_n 3, 1) := by decide +kernel
theorem d_Mo_enterCall_39 : decode b_Mo_enterCall 39 = .ok (.iadd, 1) := by decide +kernel
theorem d_Mo_enterCall_40 : decode b_Mo_enterCall 40 = .ok (.iaload, 1) := by decide +kernel
theorem d_Mo_enterCall_41 : decode b_Mo_enterCall 41 = .ok (.iconst 2, 1) := by decide +kernel
theorem d_Mo_enterCall_42 : decode b_Mo_enterCall 42 = .ok (.if_icmp .ne 35, 3) := by decide +kernel
theorem d_Mo_enterCall_45 : decode b_Mo_enterCall 45 = .ok (.aload_n 0, 1) := by decide +kernel
theorem d_Mo_enterCall_46 : decode b_Mo_enterCall 46 = .ok (.getfield 129, 3) := by decide +kernel
theorem d_Mo_enterCall_49 : decode b_Mo_enterCall 49 = .ok (.iload_n 3, 1) := by decide +kernel
theorem d_Mo_enterCall_50 : decode b_Mo_enterCall 50 = .ok (.aload_n 0, 1) := by decide +kernel
theorem d_Mo_enterCall_51 : decode b_Mo_enterCall 51 = .ok (.aload_n 0, 1) := by decide +kernel
theorem d_Mo_enterCall_52 : decode b_Mo_enterCall 52 = .ok (.getfield 38, 3) := by decide +kernel
theorem d_Mo_enterCall_55 : decode b_Mo_enterCall 55 = .ok (.aload_n 0, 1) := by decide +kernel
theorem d_Mo_enterCall_56 : decode b_Mo_enterCall 56 = .ok (.getfield 300, 3) := by decide +kernel
theorem d_Mo_enterCall_59 : decode b_Mo_enterCall 59 = .ok (.iaload, 1) := by decide +kernel
theorem d_Mo_enterCall_60 : decode b_Mo_enterCall 60 = .ok (.invokevirtual 306, 3) := by decide +kernel
theorem d_Mo_enterCall_63 : decode b_Mo_enterCall 63 = .ok (.iastore, 1) := by decide +kernel
theorem d_Mo_enterCall_64 : decode b_Mo_enterCall 64 = .ok (.aload_n 0, 1) := by decide +kernel
theorem d_Mo_enterCall_65 : decode b_Mo_enterCall 65 = .ok (.dup, 1) := by decide +kernel
theorem d_Mo_enterCall_66 : decode b_Mo_enterCall 66 = .ok (.getfield 300, 3) := by decide +kernel
theorem d_Mo_enterCall_69 : decode b_Mo_enterCall 69 = .ok (.iconst 1, 1) := by decide +kernel
theorem d_Mo_enterCall_70 : decode b_Mo_enterCall 70 = .ok (.iadd, 1) := by decide +kernel
theorem d_Mo_enterCall_71 : decode b_Mo_enterCall 71 = .ok (.putfield 300, 3) := by decide +kernel
theorem d_Mo_enterCall_74 : decode b_Mo_enterCall 74 = .ok (.goto 13, 3) := by decide +kernel
theorem d_Mo_enterCall_77 : decode b_Mo_enterCall 77 = .ok (.aload_n 0, 1) := by decide +kernel
theorem d_Mo_enterCall_78 : decode b_Mo_enterCall 78 = .ok (.getfield 129, 3) := by decide +kernel
theorem d_Mo_enterCall_81 : decode b_Mo_enterCall 81 = .ok (.iload_n 3, 1) := by decide +kernel
theorem d_Mo_enterCall_82 : decode b_Mo_enterCall 82 = .ok (.aload_n 0, 1) := by decide +kernel
theorem d_Mo_enterCall_83 : decode b_Mo_enterCall 83 = .ok (.invokevirtual 318, 3) := by decide +kernel
theorem d_Mo_enterCall_86 : decode b_Mo_enterCall 86 = .ok (.iastore, 1) := by decide +kernel
theorem d_Mo_enterCall_87 : decode b_Mo_enterCall 87 = .ok (.iinc 3 1, 3) := by decide +kernel
theorem d_Mo_enterCall_90 : decode b_Mo_enterCall 90 = .ok (.goto (-81), 3) := by decide +kernel
theorem d_Mo_enterCall_93 : decode b_Mo_enterCall 93 = .ok (.iload_n 2, 1) := by decide +kernel
theorem d_Mo_enterCall_94 : decode b_Mo_enterCall 94 = .ok (.ifCond .le 13, 3) := by decide +kernel
theorem d_Mo_enterCall_97 : decode b_Mo_enterCall 97 = .ok (.aload_n 0, 1) := by decide +kernel
theorem d_Mo_enterCall_98 : decode b_Mo_enterCall 98 = .ok (.dup, 1) := by decide +kernel
theorem d_Mo_enterCall_99 : decode b_Mo_enterCall 99 = .ok (.getfield 300, 3) := by decide +kernel
theorem d_Mo_enterCall_102 : decode b_Mo_enterCall 102 = .ok (.iconst 1, 1) := by decide +kernel
theorem d_Mo_enterCall_103 : decode b_Mo_enterCall 103 = .ok (.iadd, 1) := by decide +kernel
theorem d_Mo_enterCall_104 : decode b_Mo_enterCall 104 = .ok (.putfield 300, 3) := by decide +kernel
theorem d_Mo_enterCall_107 : decode b_Mo_enterCall 107 = .ok (.aload_n 0, 1) := by decide +kernel
theorem d_Mo_enterCall_108 : decode b_Mo_enterCall 108 = .ok (.getfield 297, 3) := by decide +kernel
theorem d_Mo_enterCall_111 : decode b_Mo_enterCall 111 = .ok (.ifCond .ne 17, 3) := by decide +kernel
theorem d_Mo_enterCall_114 : decode b_Mo_enterCall 114 = .ok (.aload_n 0, 1) := by decide +kernel
theorem d_Mo_enterCall_115 : decode b_Mo_enterCall 115 = .ok (.getfield 288, 3) := by decide +kernel
theorem d_Mo_enterCall_118 : decode b_Mo_enterCall 118 = .ok (.bipush 10, 2) := by decide +kernel
theorem d_Mo_enterCall_120 : decode b_Mo_enterCall 120 = .ok (.if_icmp .ne 8, 3) := by decide +kernel
theorem d_Mo_enterCall_123 : decode b_Mo_enterCall 123 = .ok (.aload_n 0, 1) := by decide +kernel
theorem d_Mo_enterCall_124 : decode b_Mo_enterCall 124 = .ok (.iconst 4, 1) := by decide +kernel
theorem d_Mo_enterCall_125 : decode b_Mo_enterCall 125 = .ok (.putfield 297, 3) := by decide +kernel
theorem d_Mo_enterCall_128 : decode b_Mo_enterCall 128 = .ok (.aload_n 0, 1) := by decide +kernel
theorem d_Mo_enterCall_129 : decode b_Mo_enterCall 129 = .ok (.getfield 297, 3) := by decide +kernel
theorem d_Mo_enterCall_132 : decode b_Mo_enterCall 132 = .ok (.ifCond .eq 4, 3) := by decide +kernel
theorem d_Mo_enterCall_135 : decode b_Mo_enterCall 135 = .ok (.return_, 1) := by decide +kernel
theorem d_Mo_enterCall_136 : decode b_Mo_enterCall 136 = .ok (.aload_n 0, 1) := by decide +kernel
theorem d_Mo_enterCall_137 : decode b_Mo_enterCall 137 = .ok (.aload_n 0, 1) := by decide +kernel
theorem d_Mo_enterCall_138 : decode b_Mo_enterCall 138 = .ok (.getfield 72, 3) := by decide +kernel
theorem d_Mo_enterCall_141 : decode b_Mo_enterCall 141 = .ok (.iload_n 1, 1) := by decide +kernel
theorem d_Mo_enterCall_142 : decode b_Mo_enterCall 142 = .ok (.iaload, 1) := by decide +kernel
theorem d_Mo_enterCall_143 : decode b_Mo_enterCall 143 = .ok (.invokevirtual 291, 3) := by decide +kernel
theorem d_Mo_enterCall_146 : decode b_Mo_enterCall 146 = .ok (.istore_n 3, 1) := by decide +kernel
theorem d_Mo_enterCall_147 : decode b_Mo_enterCall 147 = .ok (.aload_n 0, 1) := by decide +kernel
theorem d_Mo_enterCall_148 : decode b_Mo_enterCall 148 = .ok (.dup, 1) := by decide +kernel
theorem d_Mo_enterCall_149 : decode b_Mo_enterCall 149 = .ok (.getfield 288, 3) := by decide +kernel
theorem d_Mo_enterCall_152 : decode b_Mo_enterCall 152 = .ok (.iconst 1, 1) := by decide +kernel
theorem d_Mo_enterCall_153 : decode b_Mo_enterCall 153 = .ok (.iadd, 1) := by decide +kernel
theorem d_Mo_enterCall_154 : decode b_Mo_enterCall 154 = .ok (.putfield 288, 3) := by decide +kernel
theorem d_Mo_enterCall_157 : decode b_Mo_enterCall 157 = .ok (.aload_n 0, 1) := by decide +kernel
theorem d_Mo_enterCall_158 : decode b_Mo_enterCall 158 = .ok (.getfield 288, 3) := by decide +kernel
theorem d_Mo_enterCall_161 : decode b_Mo_enterCall 161 = .ok (.aload_n 0, 1) := by decide +kernel
theorem d_Mo_enterCall_162 : decode b_Mo_enterCall 162 = .ok (.getfield 321, 3) := by decide +kernel
theorem d_Mo_enterCall_165 : decode b_Mo_enterCall 165 = .ok (.if_icmp .le 11, 3) := by decide +kernel
theorem d_Mo_enterCall_168 : decode b_Mo_enterCall 168 = .ok (.aload_n 0, 1) := by decide +kernel
theorem d_Mo_enterCall_169 : decode b_Mo_enterCall 169 = .ok (.aload_n 0, 1) := by decide +kernel
theorem d_Mo_enterCall_170 : decode b_Mo_enterCall 170 = .ok (.getfield 288, 3) := by decide +kernel
theorem d_Mo_enterCall_173 : decode b_Mo_enterCall 173 = .ok (.putfield 321, 3) := by decide +kernel
theorem d_Mo_enterCall_176 : decode b_Mo_enterCall 176 = .ok (.aload_n 0, 1) := by decide +kernel
theorem d_Mo_enterCall_177 : decode b_Mo_enterCall 177 = .ok (.getfield 96, 3) := by decide +kernel
theorem d_Mo_enterCall_180 : decode b_Mo_enterCall 180 = .ok (.aload_n 0, 1) := by decide +kernel
theorem d_Mo_enterCall_181 : decode b_Mo_enterCall 181 = .ok (.getfield 288, 3) := by decide +kernel
theorem d_Mo_enterCall_184 : decode b_Mo_enterCall 184 = .ok (.aload_n 0, 1) := by decide +kernel
theorem d_Mo_enterCall_185 : decode b_Mo_enterCall 185 = .ok (.getfield 75, 3) := by decide +kernel
theorem d_Mo_enterCall_188 : decode b_Mo_enterCall 188 = .ok (.iload_n 1, 1) := by decide +kernel
theorem d_Mo_enterCall_189 : decode b_Mo_enterCall 189 = .ok (.iaload, 1) := by decide +kernel
theorem d_Mo_enterCall_190 : decode b_Mo_enterCall 190 = .ok (.iastore, 1) := by decide +kernel
theorem d_Mo_enterCall_191 : decode b_Mo_enterCall 191 = .ok (.aload_n 0, 1) := by decide +kernel
theorem d_Mo_enterCall_192 : decode b_Mo_enterCall 192 = .ok (.getfield 99, 3) := by decide +kernel
theorem d_Mo_enterCall_195 : decode b_Mo_enterCall 195 = .ok (.aload_n 0, 1) := by decide +kernel
theorem d_Mo_enterCall_196 : decode b_Mo_enterCall 196 = .ok (.getfield 288, 3) := by decide +kernel
theorem d_Mo_enterCall_199 : decode b_Mo_enterCall 199 = .ok (.iload_n 3, 1) := by decide +kernel
theorem d_Mo_enterCall_200 : decode b_Mo_enterCall 200 = .ok (.iastore, 1) := by decide +kernel
theorem d_Mo_enterCall_201 : decode b_Mo_enterCall 201 = .ok (.aload_n 0, 1) := by decide +kernel
theorem d_Mo_enterCall_202 : decode b_Mo_enterCall 202 = .ok (.getfield 102, 3) := by decide +kernel
theorem d_Mo_enterCall_205 : decode b_Mo_enterCall 205 = .ok (.aload_n 0, 1) := by decide +kernel
theorem d_Mo_enterCall_206 : decode b_Mo_enterCall 206 = .ok (.getfield 288, 3) := by decide +kernel
theorem d_Mo_enterCall_209 : decode b_Mo_enterCall 209 = .ok (.aload_n 0, 1) := by decide +kernel
theorem d_Mo_enterCall_210 : decode b_Mo_enterCall 210 = .ok (.getfield 300, 3) := by decide +kernel
theorem d_Mo_enterCall_213 : decode b_Mo_enterCall 213 = .ok (.iastore, 1) := by decide +kernel
theorem d_Mo_enterCall_214 : decode b_Mo_enterCall 214 = .ok (.aload_n 0, 1) := by decide +kernel
theorem d_Mo_enterCall_215 : decode b_Mo_enterCall 215 = .ok (.getfield 105, 3) := by decide +kernel
theorem d_Mo_enterCall_218 : decode b_Mo_enterCall 218 = .ok (.aload_n 0, 1) := by decide +kernel
theorem d_Mo_enterCall_219 : decode b_Mo_enterCall 219 = .ok (.getfield 288, 3) := by decide +kernel
theorem d_Mo_enterCall_222 : decode b_Mo_enterCall 222 = .ok (.iconst 0, 1) := by decide +kernel
theorem d_Mo_enterCall_223 : decode b_Mo_enterCall 223 = .ok (.iastore, 1) := by decide +kernel
theorem d_Mo_enterCall_224 : decode b_Mo_enterCall 224 = .ok (.iconst 0, 1) := by decide +kernel
theorem d_Mo_enterCall_225 : decode b_Mo_enterCall 225 = .ok (.istore 4, 2) := by decide +kernel
theorem d_Mo_enterCall_227 : decode b_Mo_enterCall 227 = .ok (.iload 4, 2) := by decide +kernel
theorem d_Mo_enterCall_229 : decode b_Mo_enterCall 229 = .ok (.bipush 12, 2) := by decide +kernel
theorem d_Mo_enterCall_231 : decode b_Mo_enterCall 231 = .ok (.if_icmp .ge 25, 3) := by decide +kernel
theorem d_Mo_enterCall_234 : decode b_Mo_enterCall 234 = .ok (.aload_n 0, 1) := by decide +kernel
theorem d_Mo_enterCall_235 : decode b_Mo_enterCall 235 = .ok (.getfield 90, 3) := by decide +kernel
theorem d_Mo_enterCall_238 : decode b_Mo_enterCall 238 = .ok (.bipush 12, 2) := by decide +kernel
theorem d_Mo_enterCall_240 : decode b_Mo_enterCall 240 = .ok (.aload_n 0, 1) := by decide +kernel
theorem d_Mo_enterCall_241 : decode b_Mo_enterCall 241 = .ok (.getfield 288, 3) := by decide +kernel
theorem d_Mo_enterCall_244 : decode b_Mo_enterCall 244 = .ok (.imul, 1) := by decide +kernel
theorem d_Mo_enterCall_245 : decode b_Mo_enterCall 245 = .ok (.iload 4, 2) := by decide +kernel
theorem d_Mo_enterCall_247 : decode b_Mo_enterCall 247 = .ok (.iadd, 1) := by decide +kernel
theorem d_Mo_enterCall_248 : decode b_Mo_enterCall 248 = .ok (.iconst 0, 1) := by decide +kernel
theorem d_Mo_enterCall_249 : decode b_Mo_enterCall 249 = .ok (.iastore, 1) := by decide +kernel
theorem d_Mo_enterCall_250 : decode b_Mo_enterCall 250 = .ok (.iinc 4 1, 3) := by decide +kernel
theorem d_Mo_enterCall_253 : decode b_Mo_enterCall 253 = .ok (.goto (-26), 3) := by decide +kernel
theorem d_Mo_enterCall_256 : decode b_Mo_enterCall 256 = .ok (.iconst 0, 1) := by decide +kernel
theorem d_Mo_enterCall_257 : decode b_Mo_enterCall 257 = .ok (.istore 4, 2) := by decide +kernel
theorem d_Mo_enterCall_259 : decode b_Mo_enterCall 259 = .ok (.iload 4, 2) := by decide +kernel
theorem d_Mo_enterCall_261 : decode b_Mo_enterCall 261 = .ok (.iload_n 2, 1) := by decide +kernel
theorem d_Mo_enterCall_262 : decode b_Mo_enterCall 262 = .ok (.if_icmp .ge 57, 3) := by decide +kernel
theorem d_Mo_enterCall_265 : decode b_Mo_enterCall 265 = .ok (.bipush 12, 2) := by decide +kernel
theorem d_Mo_enterCall_267 : decode b_Mo_enterCall 267 = .ok (.aload_n 0, 1) := by decide +kernel
theorem d_Mo_enterCall_268 : decode b_Mo_enterCall 268 = .ok (.getfield 288, 3) := by decide +kernel
theorem d_Mo_enterCall_271 : decode b_Mo_enterCall 271 = .ok (.imul, 1) := by decide +kernel
theorem d_Mo_enterCall_272 : decode b_Mo_enterCall 272 = .ok (.aload_n 0, 1) := by decide +kernel
theorem d_Mo_enterCall_273 : decode b_Mo_enterCall 273 = .ok (.iload_n 1, 1) := by decide +kernel
theorem d_Mo_enterCall_274 : decode b_Mo_enterCall 274 = .ok (.iconst 1, 1) := by decide +kernel
theorem d_Mo_enterCall_275 : decode b_Mo_enterCall 275 = .ok (.iadd, 1) := by decide +kernel
theorem d_Mo_enterCall_276 : decode b_Mo_enterCall 276 = .ok (.iload 4, 2) := by decide +kernel
theorem d_Mo_enterCall_278 : decode b_Mo_enterCall 278 = .ok (.iadd, 1) := by decide +kernel
theorem d_Mo_enterCall_279 : decode b_Mo_enterCall 279 = .ok (.invokevirtual 294, 3) := by decide +kernel
theorem d_Mo_enterCall_282 : decode b_Mo_enterCall 282 = .ok (.iadd, 1) := by decide +kernel
theorem d_Mo_enterCall_283 : decode b_Mo_enterCall 283 = .ok (.istore 5, 2) := by decide +kernel
theorem d_Mo_enterCall_285 : decode b_Mo_enterCall 285 = .ok (.aload_n 0, 1) := by decide +kernel
theorem d_Mo_enterCall_286 : decode b_Mo_enterCall 286 = .ok (.getfield 90, 3) := by decide +kernel
theorem d_Mo_enterCall_289 : decode b_Mo_enterCall 289 = .ok (.iload 5, 2) := by decide +kernel
theorem d_Mo_enterCall_291 : decode b_Mo_enterCall 291 = .ok (.aload_n 0, 1) := by decide +kernel
theorem d_Mo_enterCall_292 : decode b_Mo_enterCall 292 = .ok (.getfield 129, 3) := by decide +kernel
theorem d_Mo_enterCall_295 : decode b_Mo_enterCall 295 = .ok (.iload 4, 2) := by decide +kernel
theorem d_Mo_enterCall_297 : decode b_Mo_enterCall 297 = .ok (.iaload, 1) := by decide +kernel
theorem d_Mo_enterCall_298 : decode b_Mo_enterCall 298 = .ok (.iastore, 1) := by decide +kernel
theorem d_Mo_enterCall_299 : decode b_Mo_enterCall 299 = .ok (.aload_n 0, 1) := by decide +kernel
theorem d_Mo_enterCall_300 : decode b_Mo_enterCall 300 = .ok (.getfield 93, 3) := by decide +kernel
theorem d_Mo_enterCall_303 : decode b_Mo_enterCall 303 = .ok (.iload 5, 2) := by decide +kernel
theorem d_Mo_enterCall_305 : decode b_Mo_enterCall 305 = .ok (.aload_n 0, 1) := by decide +kernel
theorem d_Mo_enterCall_306 : decode b_Mo_enterCall 306 = .ok (.getfield 129, 3) := by decide +kernel
theorem d_Mo_enterCall_309 : decode b_Mo_enterCall 309 = .ok (.iload 4, 2) := by decide +kernel
theorem d_Mo_enterCall_311 : decode b_Mo_enterCall 311 = .ok (.iaload, 1) := by decide +kernel
theorem d_Mo_enterCall_312 : decode b_Mo_enterCall 312 = .ok (.iastore, 1) := by decide +kernel
theorem d_Mo_enterCall_313 : decode b_Mo_enterCall 313 = .ok (.iinc 4 1, 3) := by decide +kernel
theorem d_Mo_enterCall_316 : decode b_Mo_enterCall 316 = .ok (.goto (-57), 3) := by decide +kernel
theorem d_Mo_enterCall_319 : decode b_Mo_enterCall 319 = .ok (.aload_n 0, 1) := by decide +kernel
theorem d_Mo_enterCall_320 : decode b_Mo_enterCall 320 = .ok (.aload_n 0, 1) := by decide +kernel
theorem d_Mo_enterCall_321 : decode b_Mo_enterCall 321 = .ok (.getfield 81, 3) := by decide +kernel
theorem d_Mo_enterCall_324 : decode b_Mo_enterCall 324 = .ok (.aload_n 0, 1) := by decide +kernel
theorem d_Mo_enterCall_325 : decode b_Mo_enterCall 325 = .ok (.getfield 75, 3) := by decide +kernel
theorem d_Mo_enterCall_328 : decode b_Mo_enterCall 328 = .ok (.iload_n 1, 1) := by decide +kernel
theorem d_Mo_enterCall_329 : decode b_Mo_enterCall 329 = .ok (.iaload, 1) := by decide +kernel
theorem d_Mo_enterCall_330 : decode b_Mo_enterCall 330 = .ok (.iaload, 1) := by decide +kernel
theorem d_Mo_enterCall_331 : decode b_Mo_enterCall 331 = .ok (.putfield 300, 3) := by decide +kernel
theorem d_Mo_enterCall_334 : decode b_Mo_enterCall 334 = .ok (.return_, 1) := by decide +kernel
theorem d_Mo_write_0 : decode b_Mo_write 0 = .ok (.aload_n 0, 1) := by decide +kernel
theorem d_Mo_write_1 : decode b_Mo_write 1 = .ok (.getfield 324, 3) := by decide +kernel
theorem d_Mo_write_4 : decode b_Mo_write 4 = .ok (.bipush 32, 2) := by decide +kernel
theorem d_Mo_write_6 : decode b_Mo_write 6 = .ok (.if_icmp .ne 14, 3) := by decide +kernel
theorem d_Mo_write_9 : decode b_Mo_write 9 = .ok (.aload_n 0, 1) := by decide +kernel
theorem d_Mo_write_10 : decode b_Mo_write 10 = .ok (.dup, 1) := by decide +kernel
theorem d_Mo_write_11 : decode b_Mo_write 11 = .ok (.getfield 327, 3) := by decide +kernel
theorem d_Mo_write_14 : decode b_Mo_write 14 = .ok (.iconst 1, 1) := by decide +kernel
theorem d_Mo_write_15 : decode b_Mo_write 15 = .ok (.iadd, 1) := by decide +kernel
theorem d_Mo_write_16 : decode b_Mo_write 16 = .ok (.putfield 327, 3) := by decide +kernel
theorem d_Mo_write_19 : decode b_Mo_write 19 = .ok (.return_, 1) := by decide +kernel
theorem d_Mo_write_20 : decode b_Mo_write 20 = .ok (.aload_n 0, 1) := by decide +kernel
theorem d_Mo_write_21 : decode b_Mo_write 21 = .ok (.getfield 114, 3) := by decide +kernel
theorem d_Mo_write_24 : decode b_Mo_write 24 = .ok (.aload_n 0, 1) := by decide +kernel
theorem d_Mo_write_25 : decode b_Mo_write 25 = .ok (.getfield 324, 3) := by decide +kernel
theorem d_Mo_write_28 : decode b_Mo_write 28 = .ok (.iload_n 1, 1) := by decide +kernel
theorem d_Mo_write_29 : decode b_Mo_write 29 = .ok (.iastore, 1) := by decide +kernel
theorem d_Mo_write_30 : decode b_Mo_write 30 = .ok (.aload_n 0, 1) := by decide +kernel
theorem d_Mo_write_31 : decode b_Mo_write 31 = .ok (.dup, 1) := by decide +kernel
theorem d_Mo_write_32 : decode b_Mo_write 32 = .ok (.getfield 324, 3) := by decide +kernel
theorem d_Mo_write_35 : decode b_Mo_write 35 = .ok (.iconst 1, 1) := by decide +kernel
theorem d_Mo_write_36 : decode b_Mo_write 36 = .ok (.iadd, 1) := by decide +kernel
theorem d_Mo_write_37 : decode b_Mo_write 37 = .ok (.putfield 324, 3) := by decide +kernel
theorem d_Mo_write_40 : decode b_Mo_write 40 = .ok (.return_, 1) := by decide +kernel
theorem d_Mo_test_0 : decode b_Mo_test 0 = .ok (.aload_n 0, 1) := by decide +kernel
theorem d_Mo_test_1 : decode b_Mo_test 1 = .ok (.invokevirtual 330, 3) := by decide +kernel
theorem d_Mo_test_4 : decode b_Mo_test 4 = .ok (.aload_n 0, 1) := by decide +kernel
theorem d_Mo_test_5 : decode b_Mo_test 5 = .ok (.getfield 297, 3) := by decide +kernel
theorem d_Mo_test_8 : decode b_Mo_test 8 = .ok (.ifCond .eq 4, 3) := by decide +kernel
theorem d_Mo_test_11 : decode b_Mo_test 11 = .ok (.return_, 1) := by decide +kernel
theorem d_Mo_test_12 : decode b_Mo_test 12 = .ok (.aload_n 0, 1) := by decide +kernel
theorem d_Mo_test_13 : decode b_Mo_test 13 = .ok (.iload_n 1, 1) := by decide +kernel
theorem d_Mo_test_14 : decode b_Mo_test 14 = .ok (.iconst 1, 1) := by decide +kernel
theorem d_Mo_test_15 : decode b_Mo_test 15 = .ok (.iadd, 1) := by decide +kernel
theorem d_Mo_test_16 : decode b_Mo_test 16 = .ok (.putfield 300, 3) := by decide +kernel
theorem d_Mo_test_19 : decode b_Mo_test 19 = .ok (.aload_n 0, 1) := by decide +kernel
theorem d_Mo_test_20 : decode b_Mo_test 20 = .ok (.invokevirtual 333, 3) := by decide +kernel
theorem d_Mo_test_23 : decode b_Mo_test 23 = .ok (.istore_n 2, 1) := by decide +kernel
theorem d_Mo_test_24 : decode b_Mo_test 24 = .ok (.aload_n 0, 1) := by decide +kernel
theorem d_Mo_test_25 : decode b_Mo_test 25 = .ok (.getfield 297, 3) := by decide +kernel
theorem d_Mo_test_28 : decode b_Mo_test 28 = .ok (.ifCond .eq 4, 3) := by decide +kernel
theorem d_Mo_test_31 : decode b_Mo_test 31 = .ok (.return_, 1) := by decide +kernel
theorem d_Mo_test_32 : decode b_Mo_test 32 = .ok (.aload_n 0, 1) := by decide +kernel
theorem d_Mo_test_33 : decode b_Mo_test 33 = .ok (.dup, 1) := by decide +kernel
theorem d_Mo_test_34 : decode b_Mo_test 34 = .ok (.getfield 300, 3) := by decide +kernel
theorem d_Mo_test_37 : decode b_Mo_test 37 = .ok (.iconst 1, 1) := by decide +kernel
theorem d_Mo_test_38 : decode b_Mo_test 38 = .ok (.iadd, 1) := by decide +kernel
theorem d_Mo_test_39 : decode b_Mo_test 39 = .ok (.putfield 300, 3) := by decide +kernel
theorem d_Mo_test_42 : decode b_Mo_test 42 = .ok (.iload_n 2, 1) := by decide +kernel
theorem d_Mo_test_43 : decode b_Mo_test 43 = .ok (.ifCond .eq 17, 3) := by decide +kernel
theorem d_Mo_test_46 : decode b_Mo_test 46 = .ok (.aload_n 0, 1) := by decide +kernel
theorem d_Mo_test_47 : decode b_Mo_test 47 = .ok (.aload_n 0, 1) := by decide +kernel
theorem d_Mo_test_48 : decode b_Mo_test 48 = .ok (.getfield 32, 3) := by decide +kernel
theorem d_Mo_test_51 : decode b_Mo_test 51 = .ok (.iload_n 1, 1) := by decide +kernel
theorem d_Mo_test_52 : decode b_Mo_test 52 = .ok (.iaload, 1) := by decide +kernel
theorem d_Mo_test_53 : decode b_Mo_test 53 = .ok (.iload_n 1, 1) := by decide +kernel
theorem d_Mo_test_54 : decode b_Mo_test 54 = .ok (.invokevirtual 336, 3) := by decide +kernel
theorem d_Mo_test_57 : decode b_Mo_test 57 = .ok (.goto 71, 3) := by decide +kernel
theorem d_Mo_test_60 : decode b_Mo_test 60 = .ok (.aload_n 0, 1) := by decide +kernel
theorem d_Mo_test_61 : decode b_Mo_test 61 = .ok (.getfield 32, 3) := by decide +kernel
theorem d_Mo_test_64 : decode b_Mo_test 64 = .ok (.iload_n 1, 1) := by decide +kernel
theorem d_Mo_test_65 : decode b_Mo_test 65 = .ok (.iaload, 1) := by decide +kernel
theorem d_Mo_test_66 : decode b_Mo_test 66 = .ok (.bipush 7, 2) := by decide +kernel
theorem d_Mo_test_68 : decode b_Mo_test 68 = .ok (.if_icmp .ne 46, 3) := by decide +kernel
theorem d_Mo_test_71 : decode b_Mo_test 71 = .ok (.aload_n 0, 1) := by decide +kernel
theorem d_Mo_test_72 : decode b_Mo_test 72 = .ok (.getfield 32, 3) := by decide +kernel
theorem d_Mo_test_75 : decode b_Mo_test 75 = .ok (.aload_n 0, 1) := by decide +kernel
theorem d_Mo_test_76 : decode b_Mo_test 76 = .ok (.getfield 41, 3) := by decide +kernel
theorem d_Mo_test_79 : decode b_Mo_test 79 = .ok (.iload_n 1, 1) := by decide +kernel
theorem d_Mo_test_80 : decode b_Mo_test 80 = .ok (.iaload, 1) := by decide +kernel
theorem d_Mo_test_81 : decode b_Mo_test 81 = .ok (.iaload, 1) := by decide +kernel
theorem d_Mo_test_82 : decode b_Mo_test 82 = .ok (.bipush 9, 2) := by decide +kernel
theorem d_Mo_test_84 : decode b_Mo_test 84 = .ok (.if_icmp .ne 30, 3) := by decide +kernel
theorem d_Mo_test_87 : decode b_Mo_test 87 = .ok (.aload_n 0, 1) := by decide +kernel
theorem d_Mo_test_88 : decode b_Mo_test 88 = .ok (.bipush 9, 2) := by decide +kernel
theorem d_Mo_test_90 : decode b_Mo_test 90 = .ok (.aload_n 0, 1) := by decide +kernel
theorem d_Mo_test_91 : decode b_Mo_test 91 = .ok (.getfield 41, 3) := by decide +kernel
theorem d_Mo_test_94 : decode b_Mo_test 94 = .ok (.iload_n 1, 1) := by decide +kernel
theorem d_Mo_test_95 : decode b_Mo_test 95 = .ok (.iaload, 1) := by decide +kernel
theorem d_Mo_test_96 : decode b_Mo_test 96 = .ok (.invokevirtual 336, 3) := by decide +kernel
theorem d_Mo_test_99 : decode b_Mo_test 99 = .ok (.aload_n 0, 1) := by decide +kernel
theorem d_Mo_test_100 : decode b_Mo_test 100 = .ok (.aload_n 0, 1) := by decide +kernel
theorem d_Mo_test_101 : decode b_Mo_test 101 = .ok (.getfield 41, 3) := by decide +kernel
theorem d_Mo_test_104 : decode b_Mo_test 104 = .ok (.iload_n 1, 1) := by decide +kernel
theorem d_Mo_test_105 : decode b_Mo_test 105 = .ok (.iaload, 1) := by decide +kernel
theorem d_Mo_test_106 : decode b_Mo_test 106 = .ok (.iconst 1, 1) := by decide +kernel
theorem d_Mo_test_107 : decode b_Mo_test 107 = .ok (.iadd, 1) := by decide +kernel
theorem d_Mo_test_108 : decode b_Mo_test 108 = .ok (.putfield 300, 3) := by decide +kernel
theorem d_Mo_test_111 : decode b_Mo_test 111 = .ok (.goto 17, 3) := by decide +kernel
theorem d_Mo_test_114 : decode b_Mo_test 114 = .ok (.aload_n 0, 1) := by decide +kernel
theorem d_Mo_test_115 : decode b_Mo_test 115 = .ok (.aload_n 0, 1) := by decide +kernel
theorem d_Mo_test_116 : decode b_Mo_test 116 = .ok (.getfield 41, 3) := by decide +kernel
theorem d_Mo_test_119 : decode b_Mo_test 119 = .ok (.iload_n 1, 1) := by decide +kernel
theorem d_Mo_test_120 : decode b_Mo_test 120 = .ok (.iaload, 1) := by decide +kernel
theorem d_Mo_test_121 : decode b_Mo_test 121 = .ok (.putfield 300, 3) := by decide +kernel
theorem d_Mo_test_124 : decode b_Mo_test 124 = .ok (.aload_n 0, 1) := by decide +kernel
theorem d_Mo_test_125 : decode b_Mo_test 125 = .ok (.invokevirtual 339, 3) := by decide +kernel
theorem d_Mo_test_128 : decode b_Mo_test 128 = .ok (.return_, 1) := by decide +kernel
theorem d_Mo_over_0 : decode b_Mo_over 0 = .ok (.iconst 1, 1) := by decide +kernel
theorem d_Mo_over_1 : decode b_Mo_over 1 = .ok (.istore_n 1, 1) := by decide +kernel
theorem d_Mo_over_2 : decode b_Mo_over 2 = .ok (.iload_n 1, 1) := by decide +kernel
theorem d_Mo_over_3 : decode b_Mo_over 3 = .ok (.ifCond .eq 229, 3) := by decide +kernel
theorem d_Mo_over_6 : decode b_Mo_over 6 = .ok (.aload_n 0, 1) := by decide +kernel
theorem d_Mo_over_7 : decode b_Mo_over 7 = .ok (.getfield 288, 3) := by decide +kernel
theorem d_Mo_over_10 : decode b_Mo_over 10 = .ok (.ifCond .lt 222, 3) := by decide +kernel
theorem d_Mo_over_13 : decode b_Mo_over 13 = .ok (.aload_n 0, 1) := by decide +kernel
theorem d_Mo_over_14 : decode b_Mo_over 14 = .ok (.getfield 288, 3) := by decide +kernel
theorem d_Mo_over_17 : decode b_Mo_over 17 = .ok (.istore_n 2, 1) := by decide +kernel
theorem d_Mo_over_18 : decode b_Mo_over 18 = .ok (.aload_n 0, 1) := by decide +kernel
theorem d_Mo_over_19 : decode b_Mo_over 19 = .ok (.getfield 105, 3) := by decide +kernel
theorem d_Mo_over_22 : decode b_Mo_over 22 = .ok (.iload_n 2, 1) := by decide +kernel
theorem d_Mo_over_23 : decode b_Mo_over 23 = .ok (.iaload, 1) := by decide +kernel
theorem d_Mo_over_24 : decode b_Mo_over 24 = .ok (.ifCond .ne 51, 3) := by decide +kernel
theorem d_Mo_over_27 : decode b_Mo_over 27 = .ok (.aload_n 0, 1) := by decide +kernel
theorem d_Mo_over_28 : decode b_Mo_over 28 = .ok (.getfield 32, 3) := by decide +kernel
theorem d_Mo_over_31 : decode b_Mo_over 31 = .ok (.aload_n 0, 1) := by decide +kernel
theorem d_Mo_over_32 : decode b_Mo_over 32 = .ok (.getfield 300, 3) := by decide +kernel
theorem d_Mo_over_35 : decode b_Mo_over 35 = .ok (.iaload, 1) := by decide +kernel
theorem d_Mo_over_36 : decode b_Mo_over 36 = .ok (.bipush 59, 2) := by decide +kernel
theorem d_Mo_over_38 : decode b_Mo_over 38 = .ok (.if_icmp .ne 14, 3) := by decide +kernel
theorem d_Mo_over_41 : decode b_Mo_over 41 = .ok (.aload_n 0, 1) := by decide +kernel
theorem d_Mo_over_42 : decode b_Mo_over 42 = .ok (.dup, 1) := by decide +kernel
theorem d_Mo_over_43 : decode b_Mo_over 43 = .ok (.getfield 300, 3) := by decide +kernel
theorem d_Mo_over_46 : decode b_Mo_over 46 = .ok (.iconst 1, 1) := by decide +kernel
theorem d_Mo_over_47 : decode b_Mo_over 47 = .ok (.iadd, 1) := by decide +kernel
theorem d_Mo_over_48 : decode b_Mo_over 48 = .ok (.putfield 300, 3) := by decide +kernel
theorem d_Mo_over_51 : decode b_Mo_over 51 = .ok (.return_, 1) := by decide +kernel
theorem d_Mo_over_52 : decode b_Mo_over 52 = .ok (.aload_n 0, 1) := by decide +kernel
theorem d_Mo_over_53 : decode b_Mo_over 53 = .ok (.aload_n 0, 1) := by decide +kernel
theorem d_Mo_over_54 : decode b_Mo_over 54 = .ok (.getfield 102, 3) := by decide +kernel
theorem d_Mo_over_57 : decode b_Mo_over 57 = .ok (.iload_n 2, 1) := by decide +kernel
theorem d_Mo_over_58 : decode b_Mo_over 58 = .ok (.iaload, 1) := by decide +kernel
theorem d_Mo_over_59 : decode b_Mo_over 59 = .ok (.putfield 300, 3) := by decide +kernel
theorem d_Mo_over_62 : decode b_Mo_over 62 = .ok (.aload_n 0, 1) := by decide +kernel
theorem d_Mo_over_63 : decode b_Mo_over 63 = .ok (.dup, 1) := by decide +kernel
theorem d_Mo_over_64 : decode b_Mo_over 64 = .ok (.getfield 288, 3) := by decide +kernel
theorem d_Mo_over_67 : decode b_Mo_over 67 = .ok (.iconst 1, 1) := by decide +kernel
theorem d_Mo_over_68 : decode b_Mo_over 68 = .ok (.isub, 1) := by decide +kernel
theorem d_Mo_over_69 : decode b_Mo_over 69 = .ok (.putfield 288, 3) := by decide +kernel
theorem d_Mo_over_72 : decode b_Mo_over 72 = .ok (.goto (-70), 3) := by decide +kernel
theorem d_Mo_over_75 : decode b_Mo_over 75 = .ok (.aload_n 0, 1) := by decide +kernel
theorem d_Mo_over_76 : decode b_Mo_over 76 = .ok (.getfield 108, 3) := by decide +kernel
theorem d_Mo_over_79 : decode b_Mo_over 79 = .ok (.bipush 10, 2) := by decide +kernel
theorem d_Mo_over_81 : decode b_Mo_over 81 = .ok (.iload_n 2, 1) := by decide +kernel
theorem d_Mo_over_82 : decode b_Mo_over 82 = .ok (.imul, 1) := by decide +kernel
theorem d_Mo_over_83 : decode b_Mo_over 83 = .ok (.aload_n 0, 1) := by decide +kernel
theorem d_Mo_over_84 : decode b_Mo_over 84 = .ok (.getfield 105, 3) := by decide +kernel
theorem d_Mo_over_87 : decode b_Mo_over 87 = .ok (.iload_n 2, 1) := by decide +kernel
theorem d_Mo_over_88 : decode b_Mo_over 88 = .ok (.iaload, 1) := by decide +kernel
theorem d_Mo_over_89 : decode b_Mo_over 89 = .ok (.iadd, 1) := by decide +kernel
theorem d_Mo_over_90 : decode b_Mo_over 90 = .ok (.iconst 1, 1) := by decide +kernel
theorem d_Mo_over_91 : decode b_Mo_over 91 = .ok (.isub, 1) := by decide +kernel
theorem d_Mo_over_92 : decode b_Mo_over 92 = .ok (.iaload, 1) := by decide +kernel
theorem d_Mo_over_93 : decode b_Mo_over 93 = .ok (.istore_n 3, 1) := by decide +kernel
theorem d_Mo_over_94 : decode b_Mo_over 94 = .ok (.aload_n 0, 1) := by decide +kernel
theorem d_Mo_over_95 : decode b_Mo_over 95 = .ok (.getfield 111, 3) := by decide +kernel
theorem d_Mo_over_98 : decode b_Mo_over 98 = .ok (.bipush 10, 2) := by decide +kernel
theorem d_Mo_over_100 : decode b_Mo_over 100 = .ok (.iload_n 2, 1) := by decide +kernel
theorem d_Mo_over_101 : decode b_Mo_over 101 = .ok (.imul, 1) := by decide +kernel
theorem d_Mo_over_102 : decode b_Mo_over 102 = .ok (.aload_n 0, 1) := by decide +kernel
theorem d_Mo_over_103 : decode b_Mo_over 103 = .ok (.getfield 105, 3) := by decide +kernel
theorem d_Mo_over_106 : decode b_Mo_over 106 = .ok (.iload_n 2, 1) := by decide +kernel
theorem d_Mo_over_107 : decode b_Mo_over 107 = .ok (.iaload, 1) := by decide +kernel
theorem d_Mo_over_108 : decode b_Mo_over 108 = .ok (.iadd, 1) := by decide +kernel
theorem d_Mo_over_109 : decode b_Mo_over 109 = .ok (.iconst 1, 1) := by decide +kernel
theorem d_Mo_over_110 : decode b_Mo_over 110 = .ok (.isub, 1) := by decide +kernel
theorem d_Mo_over_111 : decode b_Mo_over 111 = .ok (.iaload, 1) := by decide +kernel
theorem d_Mo_over_112 : decode b_Mo_over 112 = .ok (.istore 4, 2) := by decide +kernel
theorem d_Mo_over_114 : decode b_Mo_over 114 = .ok (.iload_n 3, 1) := by decide +kernel
theorem d_Mo_over_115 : decode b_Mo_over 115 = .ok (.iconst 5, 1) := by decide +kernel
theorem d_Mo_over_116 : decode b_Mo_over 116 = .ok (.if_icmp .ne 28, 3) := by decide +kernel
theorem d_Mo_over_119 : decode b_Mo_over 119 = .ok (.aload_n 0, 1) := by decide +kernel
theorem d_Mo_over_120 : decode b_Mo_over 120 = .ok (.getfield 32, 3) := by decide +kernel
theorem d_Mo_over_123 : decode b_Mo_over 123 = .ok (.aload_n 0, 1) := by decide +kernel
theorem d_Mo_over_124 : decode b_Mo_over 124 = .ok (.getfield 300, 3) := by decide +kernel
theorem d_Mo_over_127 : decode b_Mo_over 127 = .ok (.iaload, 1) := by decide +kernel
theorem d_Mo_over_128 : decode b_Mo_over 128 = .ok (.bipush 59, 2) := by decide +kernel
theorem d_Mo_over_130 : decode b_Mo_over 130 = .ok (.if_icmp .ne 14, 3) := by decide +kernel
theorem d_Mo_over_133 : decode b_Mo_over 133 = .ok (.aload_n 0, 1) := by decide +kernel
theorem d_Mo_over_134 : decode b_Mo_over 134 = .ok (.dup, 1) := by decide +kernel
theorem d_Mo_over_135 : decode b_Mo_over 135 = .ok (.getfield 300, 3) := by decide +kernel
theorem d_Mo_over_138 : decode b_Mo_over 138 = .ok (.iconst 1, 1) := by decide +kernel
theorem d_Mo_over_139 : decode b_Mo_over 139 = .ok (.iadd, 1) := by decide +kernel
theorem d_Mo_over_140 : decode b_Mo_over 140 = .ok (.putfield 300, 3) := by decide +kernel
theorem d_Mo_over_143 : decode b_Mo_over 143 = .ok (.return_, 1) := by decide +kernel
theorem d_Mo_over_144 : decode b_Mo_over 144 = .ok (.aload_n 0, 1) := by decide +kernel
theorem d_Mo_over_145 : decode b_Mo_over 145 = .ok (.getfield 105, 3) := by decide +kernel
theorem d_Mo_over_148 : decode b_Mo_over 148 = .ok (.iload_n 2, 1) := by decide +kernel
theorem d_Mo_over_149 : decode b_Mo_over 149 = .ok (.dup2, 1) := by decide +kernel
theorem d_Mo_over_150 : decode b_Mo_over 150 = .ok (.iaload, 1) := by decide +kernel
theorem d_Mo_over_151 : decode b_Mo_over 151 = .ok (.iconst 1, 1) := by decide +kernel
theorem d_Mo_over_152 : decode b_Mo_over 152 = .ok (.isub, 1) := by decide +kernel
theorem d_Mo_over_153 : decode b_Mo_over 153 = .ok (.iastore, 1) := by decide +kernel
theorem d_Mo_over_154 : decode b_Mo_over 154 = .ok (.iload_n 3, 1) := by decide +kernel
theorem d_Mo_over_155 : decode b_Mo_over 155 = .ok (.bipush 10, 2) := by decide +kernel
theorem d_Mo_over_157 : decode b_Mo_over 157 = .ok (.if_icmp .ne 10, 3) := by decide +kernel
theorem d_Mo_over_160 : decode b_Mo_over 160 = .ok (.aload_n 0, 1) := by decide +kernel
theorem d_Mo_over_161 : decode b_Mo_over 161 = .ok (.iload 4, 2) := by decide +kernel
theorem d_Mo_over_163 : decode b_Mo_over 163 = .ok (.putfield 300, 3) := by decide +kernel
theorem d_Mo_over_166 : decode b_Mo_over 166 = .ok (.return_, 1) := by decide +kernel
theorem d_Mo_over_167 : decode b_Mo_over 167 = .ok (.iload_n 3, 1) := by decide +kernel
theorem d_Mo_over_168 : decode b_Mo_over 168 = .ok (.iconst 5, 1) := by decide +kernel
theorem d_Mo_over_169 : decode b_Mo_over 169 = .ok (.if_icmp .ne 13, 3) := by decide +kernel
theorem d_Mo_over_172 : decode b_Mo_over 172 = .ok (.aload_n 0, 1) := by decide +kernel
theorem d_Mo_over_173 : decode b_Mo_over 173 = .ok (.dup, 1) := by decide +kernel
theorem d_Mo_over_174 : decode b_Mo_over 174 = .ok (.getfield 300, 3) := by decide +kernel
theorem d_Mo_over_177 : decode b_Mo_over 177 = .ok (.iconst 1, 1) := by decide +kernel
theorem d_Mo_over_178 : decode b_Mo_over 178 = .ok (.iadd, 1) := by decide +kernel
theorem d_Mo_over_179 : decode b_Mo_over 179 = .ok (.putfield 300, 3) := by decide +kernel
theorem d_Mo_over_182 : decode b_Mo_over 182 = .ok (.iload_n 3, 1) := by decide +kernel
theorem d_Mo_over_183 : decode b_Mo_over 183 = .ok (.bipush 7, 2) := by decide +kernel
theorem d_Mo_over_185 : decode b_Mo_over 185 = .ok (.if_icmp .ne 44, 3) := by decide +kernel
theorem d_Mo_over_188 : decode b_Mo_over 188 = .ok (.aload_n 0, 1) := by decide +kernel
theorem d_Mo_over_189 : decode b_Mo_over 189 = .ok (.getfield 32, 3) := by decide +kernel
theorem d_Mo_over_192 : decode b_Mo_over 192 = .ok (.aload_n 0, 1) := by decide +kernel
theorem d_Mo_over_193 : decode b_Mo_over 193 = .ok (.getfield 300, 3) := by decide +kernel
theorem d_Mo_over_196 : decode b_Mo_over 196 = .ok (.iaload, 1) := by decide +kernel
theorem d_Mo_over_197 : decode b_Mo_over 197 = .ok (.bipush 9, 2) := by decide +kernel
theorem d_Mo_over_199 : decode b_Mo_over 199 = .ok (.if_icmp .ne 30, 3) := by decide +kernel
theorem d_Mo_over_202 : decode b_Mo_over 202 = .ok (.aload_n 0, 1) := by decide +kernel
theorem d_Mo_over_203 : decode b_Mo_over 203 = .ok (.getfield 41, 3) := by decide +kernel
theorem d_Mo_over_206 : decode b_Mo_over 206 = .ok (.iload 4, 2) := by decide +kernel
theorem d_Mo_over_208 : decode b_Mo_over 208 = .ok (.iaload, 1) := by decide +kernel
theorem d_Mo_over_209 : decode b_Mo_over 209 = .ok (.aload_n 0, 1) := by decide +kernel
theorem d_Mo_over_210 : decode b_Mo_over 210 = .ok (.getfield 300, 3) := by decide +kernel
theorem d_Mo_over_213 : decode b_Mo_over 213 = .ok (.if_icmp .ne 16, 3) := by decide +kernel
theorem d_Mo_over_216 : decode b_Mo_over 216 = .ok (.aload_n 0, 1) := by decide +kernel
theorem d_Mo_over_217 : decode b_Mo_over 217 = .ok (.aload_n 0, 1) := by decide +kernel
theorem d_Mo_over_218 : decode b_Mo_over 218 = .ok (.getfield 41, 3) := by decide +kernel
theorem d_Mo_over_221 : decode b_Mo_over 221 = .ok (.aload_n 0, 1) := by decide +kernel
theorem d_Mo_over_222 : decode b_Mo_over 222 = .ok (.getfield 300, 3) := by decide +kernel
theorem d_Mo_over_225 : decode b_Mo_over 225 = .ok (.iaload, 1) := by decide +kernel
theorem d_Mo_over_226 : decode b_Mo_over 226 = .ok (.putfield 300, 3) := by decide +kernel
theorem d_Mo_over_229 : decode b_Mo_over 229 = .ok (.goto (-227), 3) := by decide +kernel
theorem d_Mo_over_232 : decode b_Mo_over 232 = .ok (.return_, 1) := by decide +kernel
theorem d_Mo_statement_0 : decode b_Mo_statement 0 = .ok (.aload_n 0, 1) := by decide +kernel
theorem d_Mo_statement_1 : decode b_Mo_statement 1 = .ok (.getfield 300, 3) := by decide +kernel
theorem d_Mo_statement_4 : decode b_Mo_statement 4 = .ok (.istore_n 1, 1) := by decide +kernel
theorem d_Mo_statement_5 : decode b_Mo_statement 5 = .ok (.aload_n 0, 1) := by decide +kernel
theorem d_Mo_statement_6 : decode b_Mo_statement 6 = .ok (.getfield 32, 3) := by decide +kernel
theorem d_Mo_statement_9 : decode b_Mo_statement 9 = .ok (.iload_n 1, 1) := by decide +kernel
theorem d_Mo_statement_10 : decode b_Mo_statement 10 = .ok (.iaload, 1) := by decide +kernel
theorem d_Mo_statement_11 : decode b_Mo_statement 11 = .ok (.tableswitch 222 1 12 #[61, 222, 222, 222, 199, 222, 216, 222, 222, 216, 222, 147], 61) := by decide +kernel
theorem d_Mo_statement_72 : decode b_Mo_statement 72 = .ok (.aload_n 0, 1) := by decide +kernel
theorem d_Mo_statement_73 : decode b_Mo_statement 73 = .ok (.invokevirtual 330, 3) := by decide +kernel
theorem d_Mo_statement_76 : decode b_Mo_statement 76 = .ok (.aload_n 0, 1) := by decide +kernel
theorem d_Mo_statement_77 : decode b_Mo_statement 77 = .ok (.getfield 297, 3) := by decide +kernel
theorem d_Mo_statement_80 : decode b_Mo_statement 80 = .ok (.ifCond .eq 4, 3) := by decide +kernel
theorem d_Mo_statement_83 : decode b_Mo_statement 83 = .ok (.return_, 1) := by decide +kernel
theorem d_Mo_statement_84 : decode b_Mo_statement 84 = .ok (.aload_n 0, 1) := by decide +kernel
theorem d_Mo_statement_85 : decode b_Mo_statement 85 = .ok (.getfield 69, 3) := by decide +kernel
theorem d_Mo_statement_88 : decode b_Mo_statement 88 = .ok (.aload_n 0, 1) := by decide +kernel
theorem d_Mo_statement_89 : decode b_Mo_statement 89 = .ok (.getfield 38, 3) := by decide +kernel
theorem d_Mo_statement_92 : decode b_Mo_statement 92 = .ok (.iload_n 1, 1) := by decide +kernel
theorem d_Mo_statement_93 : decode b_Mo_statement 93 = .ok (.iaload, 1) := by decide +kernel
theorem d_Mo_statement_94 : decode b_Mo_statement 94 = .ok (.iaload, 1) := by decide +kernel
theorem d_Mo_statement_95 : decode b_Mo_statement 95 = .ok (.iconst 3, 1) := by decide +kernel
theorem d_Mo_statement_96 : decode b_Mo_statement 96 = .ok (.if_icmp .ne 21, 3) := by decide +kernel
theorem d_Mo_statement_99 : decode b_Mo_statement 99 = .ok (.aload_n 0, 1) := by decide +kernel
theorem d_Mo_statement_100 : decode b_Mo_statement 100 = .ok (.iload_n 1, 1) := by decide +kernel
theorem d_Mo_statement_101 : decode b_Mo_statement 101 = .ok (.iconst 1, 1) := by decide +kernel
theorem d_Mo_statement_102 : decode b_Mo_statement 102 = .ok (.iadd, 1) := by decide +kernel
theorem d_Mo_statement_103 : decode b_Mo_statement 103 = .ok (.putfield 300, 3) := by decide +kernel
theorem d_Mo_statement_106 : decode b_Mo_statement 106 = .ok (.aload_n 0, 1) := by decide +kernel
theorem d_Mo_statement_107 : decode b_Mo_statement 107 = .ok (.aload_n 0, 1) := by decide +kernel
theorem d_Mo_statement_108 : decode b_Mo_statement 108 = .ok (.getfield 38, 3) := by decide +kernel
theorem d_Mo_statement_111 : decode b_Mo_statement 111 = .ok (.iload_n 1, 1) := by decide +kernel
theorem d_Mo_statement_112 : decode b_Mo_statement 112 = .ok (.iaload, 1) := by decide +kernel
theorem d_Mo_statement_113 : decode b_Mo_statement 113 = .ok (.invokevirtual 342, 3) := by decide +kernel
theorem d_Mo_statement_116 : decode b_Mo_statement 116 = .ok (.return_, 1) := by decide +kernel
theorem d_Mo_statement_117 : decode b_Mo_statement 117 = .ok (.aload_n 0, 1) := by decide +kernel
theorem d_Mo_statement_118 : decode b_Mo_statement 118 = .ok (.iload_n 1, 1) := by decide +kernel
theorem d_Mo_statement_119 : decode b_Mo_statement 119 = .ok (.iconst 2, 1) := by decide +kernel
theorem d_Mo_statement_120 : decode b_Mo_statement 120 = .ok (.iadd, 1) := by decide +kernel
theorem d_Mo_statement_121 : decode b_Mo_statement 121 = .ok (.putfield 300, 3) := by decide +kernel
theorem d_Mo_statement_124 : decode b_Mo_statement 124 = .ok (.aload_n 0, 1) := by decide +kernel
theorem d_Mo_statement_125 : decode b_Mo_statement 125 = .ok (.invokevirtual 318, 3) := by decide +kernel
theorem d_Mo_statement_128 : decode b_Mo_statement 128 = .ok (.istore_n 2, 1) := by decide +kernel
theorem d_Mo_statement_129 : decode b_Mo_statement 129 = .ok (.aload_n 0, 1) := by decide +kernel
theorem d_Mo_statement_130 : decode b_Mo_statement 130 = .ok (.getfield 297, 3) := by decide +kernel
theorem d_Mo_statement_133 : decode b_Mo_statement 133 = .ok (.ifCond .eq 4, 3) := by decide +kernel
theorem d_Mo_statement_136 : decode b_Mo_statement 136 = .ok (.return_, 1) := by decide +kernel
theorem d_Mo_statement_137 : decode b_Mo_statement 137 = .ok (.aload_n 0, 1) := by decide +kernel
theorem d_Mo_statement_138 : decode b_Mo_statement 138 = .ok (.getfield 90, 3) := by decide +kernel
theorem d_Mo_statement_141 : decode b_Mo_statement 141 = .ok (.aload_n 0, 1) := by decide +kernel
theorem d_Mo_statement_142 : decode b_Mo_statement 142 = .ok (.aload_n 0, 1) := by decide +kernel
theorem d_Mo_statement_143 : decode b_Mo_statement 143 = .ok (.getfield 38, 3) := by decide +kernel
theorem d_Mo_statement_146 : decode b_Mo_statement 146 = .ok (.iload_n 1, 1) := by decide +kernel
theorem d_Mo_statement_147 : decode b_Mo_statement 147 = .ok (.iaload, 1) := by decide +kernel
theorem d_Mo_statement_148 : decode b_Mo_statement 148 = .ok (.invokevirtual 306, 3) := by decide +kernel
theorem d_Mo_statement_151 : decode b_Mo_statement 151 = .ok (.iload_n 2, 1) := by decide +kernel
theorem d_Mo_statement_152 : decode b_Mo_statement 152 = .ok (.iastore, 1) := by decide +kernel
theorem d_Mo_statement_153 : decode b_Mo_statement 153 = .ok (.aload_n 0, 1) := by decide +kernel
theorem d_Mo_statement_154 : decode b_Mo_statement 154 = .ok (.invokevirtual 339, 3) := by decide +kernel
theorem d_Mo_statement_157 : decode b_Mo_statement 157 = .ok (.return_, 1) := by decide +kernel
theorem d_Mo_statement_158 : decode b_Mo_statement 158 = .ok (.aload_n 0, 1) := by decide +kernel
theorem d_Mo_statement_159 : decode b_Mo_statement 159 = .ok (.invokevirtual 330, 3) := by decide +kernel
theorem d_Mo_statement_162 : decode b_Mo_statement 162 = .ok (.aload_n 0, 1) := by decide +kernel
theorem d_Mo_statement_163 : decode b_Mo_statement 163 = .ok (.getfield 297, 3) := by decide +kernel
theorem d_Mo_statement_166 : decode b_Mo_statement 166 = .ok (.ifCond .eq 4, 3) := by decide +kernel
theorem d_Mo_statement_169 : decode b_Mo_statement 169 = .ok (.return_, 1) := by decide +kernel
theorem d_Mo_statement_170 : decode b_Mo_statement 170 = .ok (.aload_n 0, 1) := by decide +kernel
theorem d_Mo_statement_171 : decode b_Mo_statement 171 = .ok (.iload_n 1, 1) := by decide +kernel
theorem d_Mo_statement_172 : decode b_Mo_statement 172 = .ok (.iconst 2, 1) := by decide +kernel
theorem d_Mo_statement_173 : decode b_Mo_statement 173 = .ok (.iadd, 1) := by decide +kernel
theorem d_Mo_statement_174 : decode b_Mo_statement 174 = .ok (.putfield 300, 3) := by decide +kernel
theorem d_Mo_statement_177 : decode b_Mo_statement 177 = .ok (.aload_n 0, 1) := by decide +kernel
theorem d_Mo_statement_178 : decode b_Mo_statement 178 = .ok (.invokevirtual 318, 3) := by decide +kernel
theorem d_Mo_statement_181 : decode b_Mo_statement 181 = .ok (.istore_n 3, 1) := by decide +kernel
theorem d_Mo_statement_182 : decode b_Mo_statement 182 = .ok (.aload_n 0, 1) := by decide +kernel
theorem d_Mo_statement_183 : decode b_Mo_statement 183 = .ok (.getfield 297, 3) := by decide +kernel
theorem d_Mo_statement_186 : decode b_Mo_statement 186 = .ok (.ifCond .eq 4, 3) := by decide +kernel
theorem d_Mo_statement_189 : decode b_Mo_statement 189 = .ok (.return_, 1) := by decide +kernel
theorem d_Mo_statement_190 : decode b_Mo_statement 190 = .ok (.aload_n 0, 1) := by decide +kernel
theorem d_Mo_statement_191 : decode b_Mo_statement 191 = .ok (.iload_n 3, 1) := by decide +kernel
theorem d_Mo_statement_192 : decode b_Mo_statement 192 = .ok (.invokevirtual 345, 3) := by decide +kernel
theorem d_Mo_statement_195 : decode b_Mo_statement 195 = .ok (.aload_n 0, 1) := by decide +kernel
theorem d_Mo_statement_196 : decode b_Mo_statement 196 = .ok (.dup, 1) := by decide +kernel
theorem d_Mo_statement_197 : decode b_Mo_statement 197 = .ok (.getfield 300, 3) := by decide +kernel
theorem d_Mo_statement_200 : decode b_Mo_statement 200 = .ok (.iconst 1, 1) := by decide +kernel
theorem d_Mo_statement_201 : decode b_Mo_statement 201 = .ok (.iadd, 1) := by decide +kernel
theorem d_Mo_statement_202 : decode b_Mo_statement 202 = .ok (.putfield 300, 3) := by decide +kernel
theorem d_Mo_statement_205 : decode b_Mo_statement 205 = .ok (.aload_n 0, 1) := by decide +kernel
theorem d_Mo_statement_206 : decode b_Mo_statement 206 = .ok (.invokevirtual 339, 3) := by decide +kernel
theorem d_Mo_statement_209 : decode b_Mo_statement 209 = .ok (.return_, 1) := by decide +kernel
theorem d_Mo_statement_210 : decode b_Mo_statement 210 = .ok (.aload_n 0, 1) := by decide +kernel
theorem d_Mo_statement_211 : decode b_Mo_statement 211 = .ok (.iconst 5, 1) := by decide +kernel
theorem d_Mo_statement_212 : decode b_Mo_statement 212 = .ok (.iload_n 1, 1) := by decide +kernel
theorem d_Mo_statement_213 : decode b_Mo_statement 213 = .ok (.invokevirtual 336, 3) := by decide +kernel
theorem d_Mo_statement_216 : decode b_Mo_statement 216 = .ok (.aload_n 0, 1) := by decide +kernel
theorem d_Mo_statement_217 : decode b_Mo_statement 217 = .ok (.dup, 1) := by decide +kernel
theorem d_Mo_statement_218 : decode b_Mo_statement 218 = .ok (.getfield 300, 3) := by decide +kernel
theorem d_Mo_statement_221 : decode b_Mo_statement 221 = .ok (.iconst 1, 1) := by decide +kernel
theorem d_Mo_statement_222 : decode b_Mo_statement 222 = .ok (.iadd, 1) := by decide +kernel
theorem d_Mo_statement_223 : decode b_Mo_statement 223 = .ok (.putfield 300, 3) := by decide +kernel
theorem d_Mo_statement_226 : decode b_Mo_statement 226 = .ok (.return_, 1) := by decide +kernel
theorem d_Mo_statement_227 : decode b_Mo_statement 227 = .ok (.aload_n 0, 1) := by decide +kernel
theorem d_Mo_statement_228 : decode b_Mo_statement 228 = .ok (.iload_n 1, 1) := by decide +kernel
theorem d_Mo_statement_229 : decode b_Mo_statement 229 = .ok (.invokevirtual 348, 3) := by decide +kernel
theorem d_Mo_statement_232 : decode b_Mo_statement 232 = .ok (.return_, 1) := by decide +kernel
theorem d_Mo_statement_233 : decode b_Mo_statement 233 = .ok (.aload_n 0, 1) := by decide +kernel
theorem d_Mo_statement_234 : decode b_Mo_statement 234 = .ok (.invokevirtual 339, 3) := by decide +kernel
theorem d_Mo_statement_237 : decode b_Mo_statement 237 = .ok (.return_, 1) := by decide +kernel
theorem d_Mo_run_0 : decode b_Mo_run 0 = .ok (.aload_n 0, 1) := by decide +kernel
theorem d_Mo_run_1 : decode b_Mo_run 1 = .ok (.iconst 0, 1) := by decide +kernel
theorem d_Mo_run_2 : decode b_Mo_run 2 = .ok (.putfield 132, 3) := by decide +kernel
theorem d_Mo_run_5 : decode b_Mo_run 5 = .ok (.aload_n 0, 1) := by decide +kernel
theorem d_Mo_run_6 : decode b_Mo_run 6 = .ok (.getfield 284, 3) := by decide +kernel
theorem d_Mo_run_9 : decode b_Mo_run 9 = .ok (.ifCond .ne 9, 3) := by decide +kernel
theorem d_Mo_run_12 : decode b_Mo_run 12 = .ok (.aload_n 0, 1) := by decide +kernel
theorem d_Mo_run_13 : decode b_Mo_run 13 = .ok (.iconst 1, 1) := by decide +kernel
theorem d_Mo_run_14 : decode b_Mo_run 14 = .ok (.invokevirtual 135, 3) := by decide +kernel
theorem d_Mo_run_17 : decode b_Mo_run 17 = .ok (.ireturn, 1) := by decide +kernel
theorem d_Mo_run_18 : decode b_Mo_run 18 = .ok (.aload_n 0, 1) := by decide +kernel
theorem d_Mo_run_19 : decode b_Mo_run 19 = .ok (.iconst 0, 1) := by decide +kernel
theorem d_Mo_run_20 : decode b_Mo_run 20 = .ok (.putfield 315, 3) := by decide +kernel
theorem d_Mo_run_23 : decode b_Mo_run 23 = .ok (.aload_n 0, 1) := by decide +kernel
theorem d_Mo_run_24 : decode b_Mo_run 24 = .ok (.iconst 0, 1) := by decide +kernel
theorem d_Mo_run_25 : decode b_Mo_run 25 = .ok (.putfield 321, 3) := by decide +kernel
theorem d_Mo_run_28 : decode b_Mo_run 28 = .ok (.aload_n 0, 1) := by decide +kernel
theorem d_Mo_run_29 : decode b_Mo_run 29 = .ok (.iconst 0, 1) := by decide +kernel
theorem d_Mo_run_30 : decode b_Mo_run 30 = .ok (.putfield 327, 3) := by decide +kernel
theorem d_Mo_run_33 : decode b_Mo_run 33 = .ok (.aload_n 0, 1) := by decide +kernel
theorem d_Mo_run_34 : decode b_Mo_run 34 = .ok (.iconst 0, 1) := by decide +kernel
theorem d_Mo_run_35 : decode b_Mo_run 35 = .ok (.putfield 324, 3) := by decide +kernel
theorem d_Mo_run_38 : decode b_Mo_run 38 = .ok (.aload_n 0, 1) := by decide +kernel
theorem d_Mo_run_39 : decode b_Mo_run 39 = .ok (.iconst 0, 1) := by decide +kernel
theorem d_Mo_run_40 : decode b_Mo_run 40 = .ok (.putfield 297, 3) := by decide +kernel
theorem d_Mo_run_43 : decode b_Mo_run 43 = .ok (.aload_n 0, 1) := by decide +kernel
theorem d_Mo_run_44 : decode b_Mo_run 44 = .ok (.iconst 0, 1) := by decide +kernel
theorem d_Mo_run_45 : decode b_Mo_run 45 = .ok (.putfield 288, 3) := by decide +kernel
theorem d_Mo_run_48 : decode b_Mo_run 48 = .ok (.aload_n 0, 1) := by decide +kernel
theorem d_Mo_run_49 : decode b_Mo_run 49 = .ok (.getfield 96, 3) := by decide +kernel
theorem d_Mo_run_52 : decode b_Mo_run 52 = .ok (.iconst 0, 1) := by decide +kernel
theorem d_Mo_run_53 : decode b_Mo_run 53 = .ok (.iconst 0, 1) := by decide +kernel
theorem d_Mo_run_54 : decode b_Mo_run 54 = .ok (.iastore, 1) := by decide +kernel
theorem d_Mo_run_55 : decode b_Mo_run 55 = .ok (.aload_n 0, 1) := by decide +kernel
theorem d_Mo_run_56 : decode b_Mo_run 56 = .ok (.getfield 99, 3) := by decide +kernel
theorem d_Mo_run_59 : decode b_Mo_run 59 = .ok (.iconst 0, 1) := by decide +kernel
theorem d_Mo_run_60 : decode b_Mo_run 60 = .ok (.iconst (-1), 1) := by decide +kernel
theorem d_Mo_run_61 : decode b_Mo_run 61 = .ok (.iastore, 1) := by decide +kernel
theorem d_Mo_run_62 : decode b_Mo_run 62 = .ok (.aload_n 0, 1) := by decide +kernel
theorem d_Mo_run_63 : decode b_Mo_run 63 = .ok (.getfield 102, 3) := by decide +kernel
theorem d_Mo_run_66 : decode b_Mo_run 66 = .ok (.iconst 0, 1) := by decide +kernel
theorem d_Mo_run_67 : decode b_Mo_run 67 = .ok (.iconst 0, 1) := by decide +kernel
theorem d_Mo_run_68 : decode b_Mo_run 68 = .ok (.iastore, 1) := by decide +kernel
theorem d_Mo_run_69 : decode b_Mo_run 69 = .ok (.aload_n 0, 1) := by decide +kernel
theorem d_Mo_run_70 : decode b_Mo_run 70 = .ok (.getfield 105, 3) := by decide +kernel
theorem d_Mo_run_73 : decode b_Mo_run 73 = .ok (.iconst 0, 1) := by decide +kernel
theorem d_Mo_run_74 : decode b_Mo_run 74 = .ok (.iconst 0, 1) := by decide +kernel
theorem d_Mo_run_75 : decode b_Mo_run 75 = .ok (.iastore, 1) := by decide +kernel
theorem d_Mo_run_76 : decode b_Mo_run 76 = .ok (.iconst 0, 1) := by decide +kernel
theorem d_Mo_run_77 : decode b_Mo_run 77 = .ok (.istore_n 1, 1) := by decide +kernel
theorem d_Mo_run_78 : decode b_Mo_run 78 = .ok (.iload_n 1, 1) := by decide +kernel
theorem d_Mo_run_79 : decode b_Mo_run 79 = .ok (.bipush 12, 2) := by decide +kernel
theorem d_Mo_run_81 : decode b_Mo_run 81 = .ok (.if_icmp .ge 16, 3) := by decide +kernel
theorem d_Mo_run_84 : decode b_Mo_run 84 = .ok (.aload_n 0, 1) := by decide +kernel
theorem d_Mo_run_85 : decode b_Mo_run 85 = .ok (.getfield 90, 3) := by decide +kernel
theorem d_Mo_run_88 : decode b_Mo_run 88 = .ok (.iload_n 1, 1) := by decide +kernel
theorem d_Mo_run_89 : decode b_Mo_run 89 = .ok (.iconst 0, 1) := by decide +kernel
theorem d_Mo_run_90 : decode b_Mo_run 90 = .ok (.iastore, 1) := by decide +kernel
theorem d_Mo_run_91 : decode b_Mo_run 91 = .ok (.iinc 1 1, 3) := by decide +kernel
theorem d_Mo_run_94 : decode b_Mo_run 94 = .ok (.goto (-16), 3) := by decide +kernel
theorem d_Mo_run_97 : decode b_Mo_run 97 = .ok (.aload_n 0, 1) := by decide +kernel
theorem d_Mo_run_98 : decode b_Mo_run 98 = .ok (.aload_n 0, 1) := by decide +kernel
theorem d_Mo_run_99 : decode b_Mo_run 99 = .ok (.getfield 81, 3) := by decide +kernel
theorem d_Mo_run_102 : decode b_Mo_run 102 = .ok (.iconst 0, 1) := by decide +kernel
theorem d_Mo_run_103 : decode b_Mo_run 103 = .ok (.iaload, 1) := by decide +kernel
theorem d_Mo_run_104 : decode b_Mo_run 104 = .ok (.putfield 300, 3) := by decide +kernel
theorem d_Mo_run_107 : decode b_Mo_run 107 = .ok (.aload_n 0, 1) := by decide +kernel
theorem d_Mo_run_108 : decode b_Mo_run 108 = .ok (.getfield 288, 3) := by decide +kernel
theorem d_Mo_run_111 : decode b_Mo_run 111 = .ok (.ifCond .lt 17, 3) := by decide +kernel
theorem d_Mo_run_114 : decode b_Mo_run 114 = .ok (.aload_n 0, 1) := by decide +kernel
theorem d_Mo_run_115 : decode b_Mo_run 115 = .ok (.getfield 297, 3) := by decide +kernel
theorem d_Mo_run_118 : decode b_Mo_run 118 = .ok (.ifCond .ne 10, 3) := by decide +kernel
theorem d_Mo_run_121 : decode b_Mo_run 121 = .ok (.aload_n 0, 1) := by decide +kernel
theorem d_Mo_run_122 : decode b_Mo_run 122 = .ok (.invokevirtual 351, 3) := by decide +kernel
theorem d_Mo_run_125 : decode b_Mo_run 125 = .ok (.goto (-18), 3) := by decide +kernel
theorem d_Mo_run_128 : decode b_Mo_run 128 = .ok (.aload_n 0, 1) := by decide +kernel
theorem d_Mo_run_129 : decode b_Mo_run 129 = .ok (.getfield 297, 3) := by decide +kernel
theorem d_Mo_run_132 : decode b_Mo_run 132 = .ok (.ifCond .ne 10, 3) := by decide +kernel
theorem d_Mo_run_135 : decode b_Mo_run 135 = .ok (.aload_n 0, 1) := by decide +kernel
theorem d_Mo_run_136 : decode b_Mo_run 136 = .ok (.getfield 324, 3) := by decide +kernel
theorem d_Mo_run_139 : decode b_Mo_run 139 = .ok (.goto 11, 3) := by decide +kernel
theorem d_Mo_run_142 : decode b_Mo_run 142 = .ok (.aload_n 0, 1) := by decide +kernel
theorem d_Mo_run_143 : decode b_Mo_run 143 = .ok (.aload_n 0, 1) := by decide +kernel
theorem d_Mo_run_144 : decode b_Mo_run 144 = .ok (.getfield 297, 3) := by decide +kernel
theorem d_Mo_run_147 : decode b_Mo_run 147 = .ok (.invokevirtual 135, 3) := by decide +kernel
theorem d_Mo_run_150 : decode b_Mo_run 150 = .ok (.ireturn, 1) := by decide +kernel
theorem d_Mo_output_0 : decode b_Mo_output 0 = .ok (.aload_n 0, 1) := by decide +kernel
theorem d_Mo_output_1 : decode b_Mo_output 1 = .ok (.iconst 0, 1) := by decide +kernel
theorem d_Mo_output_2 : decode b_Mo_output 2 = .ok (.putfield 132, 3) := by decide +kernel
theorem d_Mo_output_5 : decode b_Mo_output 5 = .ok (.iload_n 1, 1) := by decide +kernel
theorem d_Mo_output_6 : decode b_Mo_output 6 = .ok (.ifCond .lt 11, 3) := by decide +kernel
theorem d_Mo_output_9 : decode b_Mo_output 9 = .ok (.iload_n 1, 1) := by decide +kernel
theorem d_Mo_output_10 : decode b_Mo_output 10 = .ok (.aload_n 0, 1) := by decide +kernel
theorem d_Mo_output_11 : decode b_Mo_output 11 = .ok (.getfield 324, 3) := by decide +kernel
theorem d_Mo_output_14 : decode b_Mo_output 14 = .ok (.if_icmp .lt 11, 3) := by decide +kernel
theorem d_Mo_output_17 : decode b_Mo_output 17 = .ok (.aload_n 0, 1) := by decide +kernel
theorem d_Mo_output_18 : decode b_Mo_output 18 = .ok (.iconst 1, 1) := by decide +kernel
theorem d_Mo_output_19 : decode b_Mo_output 19 = .ok (.invokevirtual 135, 3) := by decide +kernel
theorem d_Mo_output_22 : decode b_Mo_output 22 = .ok (.goto 9, 3) := by decide +kernel
theorem d_Mo_output_25 : decode b_Mo_output 25 = .ok (.aload_n 0, 1) := by decide +kernel
theorem d_Mo_output_26 : decode b_Mo_output 26 = .ok (.getfield 114, 3) := by decide +kernel
theorem d_Mo_output_29 : decode b_Mo_output 29 = .ok (.iload_n 1, 1) := by decide +kernel
theorem d_Mo_output_30 : decode b_Mo_output 30 = .ok (.iaload, 1) := by decide +kernel
theorem d_Mo_output_31 : decode b_Mo_output 31 = .ok (.ireturn, 1) := by decide +kernel
theorem d_Mo_count_0 : decode b_Mo_count 0 = .ok (.aload_n 0, 1) := by decide +kernel
theorem d_Mo_count_1 : decode b_Mo_count 1 = .ok (.iconst 0, 1) := by decide +kernel
theorem d_Mo_count_2 : decode b_Mo_count 2 = .ok (.putfield 132, 3) := by decide +kernel
theorem d_Mo_count_5 : decode b_Mo_count 5 = .ok (.iload_n 1, 1) := by decide +kernel
theorem d_Mo_count_6 : decode b_Mo_count 6 = .ok (.tableswitch 59 0 4 #[34, 39, 44, 49, 54], 34) := by decide +kernel
theorem d_Mo_count_40 : decode b_Mo_count 40 = .ok (.aload_n 0, 1) := by decide +kernel
theorem d_Mo_count_41 : decode b_Mo_count 41 = .ok (.getfield 324, 3) := by decide +kernel
theorem d_Mo_count_44 : decode b_Mo_count 44 = .ok (.ireturn, 1) := by decide +kernel
theorem d_Mo_count_45 : decode b_Mo_count 45 = .ok (.aload_n 0, 1) := by decide +kernel
theorem d_Mo_count_46 : decode b_Mo_count 46 = .ok (.getfield 327, 3) := by decide +kernel
theorem d_Mo_count_49 : decode b_Mo_count 49 = .ok (.ireturn, 1) := by decide +kernel
theorem d_Mo_count_50 : decode b_Mo_count 50 = .ok (.aload_n 0, 1) := by decide +kernel
theorem d_Mo_count_51 : decode b_Mo_count 51 = .ok (.getfield 315, 3) := by decide +kernel
theorem d_Mo_count_54 : decode b_Mo_count 54 = .ok (.ireturn, 1) := by decide +kernel
theorem d_Mo_count_55 : decode b_Mo_count 55 = .ok (.aload_n 0, 1) := by decide +kernel
theorem d_Mo_count_56 : decode b_Mo_count 56 = .ok (.getfield 321, 3) := by decide +kernel
theorem d_Mo_count_59 : decode b_Mo_count 59 = .ok (.ireturn, 1) := by decide +kernel
theorem d_Mo_count_60 : decode b_Mo_count 60 = .ok (.aload_n 0, 1) := by decide +kernel
theorem d_Mo_count_61 : decode b_Mo_count 61 = .ok (.getfield 139, 3) := by decide +kernel
theorem d_Mo_count_64 : decode b_Mo_count 64 = .ok (.ireturn, 1) := by decide +kernel
theorem d_Mo_count_65 : decode b_Mo_count 65 = .ok (.aload_n 0, 1) := by decide +kernel
theorem d_Mo_count_66 : decode b_Mo_count 66 = .ok (.iconst 1, 1) := by decide +kernel
theorem d_Mo_count_67 : decode b_Mo_count 67 = .ok (.invokevirtual 135, 3) := by decide +kernel
theorem d_Mo_count_70 : decode b_Mo_count 70 = .ok (.ireturn, 1) := by decide +kernel
end
section
theorem d_Nm_init_0 : decode b_Nm_init 0 = .ok (.aload_n 0, 1) := by decide +kernel
theorem d_Nm_init_1 : decode b_Nm_init 1 = .ok (.invokespecial 3, 3) := by decide +kernel
theorem d_Nm_init_4 : decode b_Nm_init 4 = .ok (.aload_n 0, 1) := by decide +kernel
theorem d_Nm_init_5 : decode b_Nm_init 5 = .ok (.bipush 18, 2) := by decide +kernel
theorem d_Nm_init_7 : decode b_Nm_init 7 = .ok (.newarray .long, 2) := by decide +kernel
theorem d_Nm_init_9 : decode b_Nm_init 9 = .ok (.putfield 9, 3) := by decide +kernel
theorem d_Nm_init_12 : decode b_Nm_init 12 = .ok (.aload_n 0, 1) := by decide +kernel
theorem d_Nm_init_13 : decode b_Nm_init 13 = .ok (.bipush 18, 2) := by decide +kernel
theorem d_Nm_init_15 : decode b_Nm_init 15 = .ok (.newarray .int, 2) := by decide +kernel
theorem d_Nm_init_17 : decode b_Nm_init 17 = .ok (.putfield 15, 3) := by decide +kernel
theorem d_Nm_init_20 : decode b_Nm_init 20 = .ok (.aload_n 0, 1) := by decide +kernel
theorem d_Nm_init_21 : decode b_Nm_init 21 = .ok (.bipush 18, 2) := by decide +kernel
theorem d_Nm_init_23 : decode b_Nm_init 23 = .ok (.newarray .int, 2) := by decide +kernel
theorem d_Nm_init_25 : decode b_Nm_init 25 = .ok (.putfield 19, 3) := by decide +kernel
theorem d_Nm_init_28 : decode b_Nm_init 28 = .ok (.aload_n 0, 1) := by decide +kernel
theorem d_Nm_init_29 : decode b_Nm_init 29 = .ok (.bipush 18, 2) := by decide +kernel
theorem d_Nm_init_31 : decode b_Nm_init 31 = .ok (.newarray .int, 2) := by decide +kernel
theorem d_Nm_init_33 : decode b_Nm_init 33 = .ok (.putfield 22, 3) := by decide +kernel
theorem d_Nm_init_36 : decode b_Nm_init 36 = .ok (.aload_n 0, 1) := by decide +kernel
theorem d_Nm_init_37 : decode b_Nm_init 37 = .ok (.iconst 4, 1) := by decide +kernel
theorem d_Nm_init_38 : decode b_Nm_init 38 = .ok (.newarray .int, 2) := by decide +kernel
theorem d_Nm_init_40 : decode b_Nm_init 40 = .ok (.putfield 25, 3) := by decide +kernel
theorem d_Nm_init_43 : decode b_Nm_init 43 = .ok (.aload_n 0, 1) := by decide +kernel
theorem d_Nm_init_44 : decode b_Nm_init 44 = .ok (.iconst 0, 1) := by decide +kernel
theorem d_Nm_init_45 : decode b_Nm_init 45 = .ok (.putfield 28, 3) := by decide +kernel
theorem d_Nm_init_48 : decode b_Nm_init 48 = .ok (.aload_n 0, 1) := by decide +kernel
theorem d_Nm_init_49 : decode b_Nm_init 49 = .ok (.iconst 0, 1) := by decide +kernel
theorem d_Nm_init_50 : decode b_Nm_init 50 = .ok (.putfield 32, 3) := by decide +kernel
theorem d_Nm_init_53 : decode b_Nm_init 53 = .ok (.aload_n 0, 1) := by decide +kernel
theorem d_Nm_init_54 : decode b_Nm_init 54 = .ok (.iconst 0, 1) := by decide +kernel
theorem d_Nm_init_55 : decode b_Nm_init 55 = .ok (.putfield 35, 3) := by decide +kernel
theorem d_Nm_init_58 : decode b_Nm_init 58 = .ok (.aload_n 0, 1) := by decide +kernel
theorem d_Nm_init_59 : decode b_Nm_init 59 = .ok (.iconst 0, 1) := by decide +kernel
theorem d_Nm_init_60 : decode b_Nm_init 60 = .ok (.putfield 38, 3) := by decide +kernel
theorem d_Nm_init_63 : decode b_Nm_init 63 = .ok (.return_, 1) := by decide +kernel
theorem d_Nm_clear_0 : decode b_Nm_clear 0 = .ok (.aload_n 0, 1) := by decide +kernel
theorem d_Nm_clear_1 : decode b_Nm_clear 1 = .ok (.iconst 0, 1) := by decide +kernel
theorem d_Nm_clear_2 : decode b_Nm_clear 2 = .ok (.putfield 28, 3) := by decide +kernel
theorem d_Nm_clear_5 : decode b_Nm_clear 5 = .ok (.aload_n 0, 1) := by decide +kernel
theorem d_Nm_clear_6 : decode b_Nm_clear 6 = .ok (.iconst 0, 1) := by decide +kernel
theorem d_Nm_clear_7 : decode b_Nm_clear 7 = .ok (.putfield 32, 3) := by decide +kernel
theorem d_Nm_clear_10 : decode b_Nm_clear 10 = .ok (.aload_n 0, 1) := by decide +kernel
theorem d_Nm_clear_11 : decode b_Nm_clear 11 = .ok (.getfield 25, 3) := by decide +kernel
theorem d_Nm_clear_14 : decode b_Nm_clear 14 = .ok (.aload_n 0, 1) := by decide +kernel
theorem d_Nm_clear_15 : decode b_Nm_clear 15 = .ok (.getfield 32, 3) := by decide +kernel
theorem d_Nm_clear_18 : decode b_Nm_clear 18 = .ok (.iconst 0, 1) := by decide +kernel
theorem d_Nm_clear_19 : decode b_Nm_clear 19 = .ok (.iastore, 1) := by decide +kernel
theorem d_Nm_clear_20 : decode b_Nm_clear 20 = .ok (.aload_n 0, 1) := by decide +kernel
theorem d_Nm_clear_21 : decode b_Nm_clear 21 = .ok (.iconst 0, 1) := by decide +kernel
theorem d_Nm_clear_22 : decode b_Nm_clear 22 = .ok (.putfield 35, 3) := by decide +kernel
theorem d_Nm_clear_25 : decode b_Nm_clear 25 = .ok (.aload_n 0, 1) := by decide +kernel
theorem d_Nm_clear_26 : decode b_Nm_clear 26 = .ok (.iconst 0, 1) := by decide +kernel
theorem d_Nm_clear_27 : decode b_Nm_clear 27 = .ok (.putfield 38, 3) := by decide +kernel
theorem d_Nm_clear_30 : decode b_Nm_clear 30 = .ok (.return_, 1) := by decide +kernel
theorem d_Nm_declared_0 : decode b_Nm_declared 0 = .ok (.aload_n 0, 1) := by decide +kernel
theorem d_Nm_declared_1 : decode b_Nm_declared 1 = .ok (.getfield 35, 3) := by decide +kernel
theorem d_Nm_declared_4 : decode b_Nm_declared 4 = .ok (.aload_n 0, 1) := by decide +kernel
theorem d_Nm_declared_5 : decode b_Nm_declared 5 = .ok (.getfield 38, 3) := by decide +kernel
theorem d_Nm_declared_8 : decode b_Nm_declared 8 = .ok (.iadd, 1) := by decide +kernel
theorem d_Nm_declared_9 : decode b_Nm_declared 9 = .ok (.ireturn, 1) := by decide +kernel
theorem d_Nm_open_0 : decode b_Nm_open 0 = .ok (.aload_n 0, 1) := by decide +kernel
theorem d_Nm_open_1 : decode b_Nm_open 1 = .ok (.getfield 32, 3) := by decide +kernel
theorem d_Nm_open_4 : decode b_Nm_open 4 = .ok (.iconst 3, 1) := by decide +kernel
theorem d_Nm_open_5 : decode b_Nm_open 5 = .ok (.if_icmp .ge 23, 3) := by decide +kernel
theorem d_Nm_open_8 : decode b_Nm_open 8 = .ok (.aload_n 0, 1) := by decide +kernel
theorem d_Nm_open_9 : decode b_Nm_open 9 = .ok (.dup, 1) := by decide +kernel
theorem d_Nm_open_10 : decode b_Nm_open 10 = .ok (.getfield 32, 3) := by decide +kernel
theorem d_Nm_open_13 : decode b_Nm_open 13 = .ok (.iconst 1, 1) := by decide +kernel
theorem d_Nm_open_14 : decode b_Nm_open 14 = .ok (.iadd, 1) := by decide +kernel
theorem d_Nm_open_15 : decode b_Nm_open 15 = .ok (.putfield 32, 3) := by decide +kernel
theorem d_Nm_open_18 : decode b_Nm_open 18 = .ok (.aload_n 0, 1) := by decide +kernel
theorem d_Nm_open_19 : decode b_Nm_open 19 = .ok (.getfield 25, 3) := by decide +kernel
theorem d_Nm_open_22 : decode b_Nm_open 22 = .ok (.aload_n 0, 1) := by decide +kernel
theorem d_Nm_open_23 : decode b_Nm_open 23 = .ok (.getfield 32, 3) := by decide +kernel
theorem d_Nm_open_26 : decode b_Nm_open 26 = .ok (.iconst 0, 1) := by decide +kernel
theorem d_Nm_open_27 : decode b_Nm_open 27 = .ok (.iastore, 1) := by decide +kernel
theorem d_Nm_open_28 : decode b_Nm_open 28 = .ok (.return_, 1) := by decide +kernel
theorem d_Nm_close_0 : decode b_Nm_close 0 = .ok (.aload_n 0, 1) := by decide +kernel
theorem d_Nm_close_1 : decode b_Nm_close 1 = .ok (.getfield 28, 3) := by decide +kernel
theorem d_Nm_close_4 : decode b_Nm_close 4 = .ok (.ifCond .le 34, 3) := by decide +kernel
theorem d_Nm_close_7 : decode b_Nm_close 7 = .ok (.aload_n 0, 1) := by decide +kernel
theorem d_Nm_close_8 : decode b_Nm_close 8 = .ok (.getfield 19, 3) := by decide +kernel
theorem d_Nm_close_11 : decode b_Nm_close 11 = .ok (.aload_n 0, 1) := by decide +kernel
theorem d_Nm_close_12 : decode b_Nm_close 12 = .ok (.getfield 28, 3) := by decide +kernel
theorem d_Nm_close_15 : decode b_Nm_close 15 = .ok (.iconst 1, 1) := by decide +kernel
theorem d_Nm_close_16 : decode b_Nm_close 16 = .ok (.isub, 1) := by decide +kernel
theorem d_Nm_close_17 : decode b_Nm_close 17 = .ok (.iaload, 1) := by decide +kernel
theorem d_Nm_close_18 : decode b_Nm_close 18 = .ok (.aload_n 0, 1) := by decide +kernel
theorem d_Nm_close_19 : decode b_Nm_close 19 = .ok (.getfield 32, 3) := by decide +kernel
theorem d_Nm_close_22 : decode b_Nm_close 22 = .ok (.if_icmp .ne 16, 3) := by decide +kernel
theorem d_Nm_close_25 : decode b_Nm_close 25 = .ok (.aload_n 0, 1) := by decide +kernel
theorem d_Nm_close_26 : decode b_Nm_close 26 = .ok (.dup, 1) := by decide +kernel
theorem d_Nm_close_27 : decode b_Nm_close 27 = .ok (.getfield 28, 3) := by decide +kernel
theorem d_Nm_close_30 : decode b_Nm_close 30 = .ok (.iconst 1, 1) := by decide +kernel
theorem d_Nm_close_31 : decode b_Nm_close 31 = .ok (.isub, 1) := by decide +kernel
theorem d_Nm_close_32 : decode b_Nm_close 32 = .ok (.putfield 28, 3) := by decide +kernel
theorem d_Nm_close_35 : decode b_Nm_close 35 = .ok (.goto (-35), 3) := by decide +kernel
theorem d_Nm_close_38 : decode b_Nm_close 38 = .ok (.aload_n 0, 1) := by decide +kernel
theorem d_Nm_close_39 : decode b_Nm_close 39 = .ok (.dup, 1) := by decide +kernel
theorem d_Nm_close_40 : decode b_Nm_close 40 = .ok (.getfield 32, 3) := by decide +kernel
theorem d_Nm_close_43 : decode b_Nm_close 43 = .ok (.iconst 1, 1) := by decide +kernel
theorem d_Nm_close_44 : decode b_Nm_close 44 = .ok (.isub, 1) := by decide +kernel
theorem d_Nm_close_45 : decode b_Nm_close 45 = .ok (.putfield 32, 3) := by decide +kernel
theorem d_Nm_close_48 : decode b_Nm_close 48 = .ok (.return_, 1) := by decide +kernel
theorem d_Nm_declare_0 : decode b_Nm_declare 0 = .ok (.aload_n 0, 1) := by decide +kernel
theorem d_Nm_declare_1 : decode b_Nm_declare 1 = .ok (.lload_n 1, 1) := by decide +kernel
theorem d_Nm_declare_2 : decode b_Nm_declare 2 = .ok (.invokevirtual 41, 3) := by decide +kernel
theorem d_Nm_declare_5 : decode b_Nm_declare 5 = .ok (.istore 4, 2) := by decide +kernel
theorem d_Nm_declare_7 : decode b_Nm_declare 7 = .ok (.iload 4, 2) := by decide +kernel
theorem d_Nm_declare_9 : decode b_Nm_declare 9 = .ok (.ifCond .lt 21, 3) := by decide +kernel
theorem d_Nm_declare_12 : decode b_Nm_declare 12 = .ok (.aload_n 0, 1) := by decide +kernel
theorem d_Nm_declare_13 : decode b_Nm_declare 13 = .ok (.getfield 19, 3) := by decide +kernel
theorem d_Nm_declare_16 : decode b_Nm_declare 16 = .ok (.iload 4, 2) := by decide +kernel
theorem d_Nm_declare_18 : decode b_Nm_declare 18 = .ok (.iaload, 1) := by decide +kernel
theorem d_Nm_declare_19 : decode b_Nm_declare 19 = .ok (.aload_n 0, 1) := by decide +kernel
theorem d_Nm_declare_20 : decode b_Nm_declare 20 = .ok (.getfield 32, 3) := by decide +kernel
theorem d_Nm_declare_23 : decode b_Nm_declare 23 = .ok (.if_icmp .ne 7, 3) := by decide +kernel
theorem d_Nm_declare_26 : decode b_Nm_declare 26 = .ok (.iconst 1, 1) := by decide +kernel
theorem d_Nm_declare_27 : decode b_Nm_declare 27 = .ok (.goto 4, 3) := by decide +kernel
theorem d_Nm_declare_30 : decode b_Nm_declare 30 = .ok (.iconst 0, 1) := by decide +kernel
theorem d_Nm_declare_31 : decode b_Nm_declare 31 = .ok (.istore 5, 2) := by decide +kernel
theorem d_Nm_declare_33 : decode b_Nm_declare 33 = .ok (.iload 5, 2) := by decide +kernel
theorem d_Nm_declare_35 : decode b_Nm_declare 35 = .ok (.ifCond .ne 11, 3) := by decide +kernel
theorem d_Nm_declare_38 : decode b_Nm_declare 38 = .ok (.aload_n 0, 1) := by decide +kernel
theorem d_Nm_declare_39 : decode b_Nm_declare 39 = .ok (.iload_n 3, 1) := by decide +kernel
theorem d_Nm_declare_40 : decode b_Nm_declare 40 = .ok (.invokevirtual 45, 3) := by decide +kernel
theorem d_Nm_declare_43 : decode b_Nm_declare 43 = .ok (.ifCond .eq 5, 3) := by decide +kernel
theorem d_Nm_declare_46 : decode b_Nm_declare 46 = .ok (.iconst 0, 1) := by decide +kernel
theorem d_Nm_declare_47 : decode b_Nm_declare 47 = .ok (.ireturn, 1) := by decide +kernel
theorem d_Nm_declare_48 : decode b_Nm_declare 48 = .ok (.aload_n 0, 1) := by decide +kernel
theorem d_Nm_declare_49 : decode b_Nm_declare 49 = .ok (.getfield 9, 3) := by decide +kernel
theorem d_Nm_declare_52 : decode b_Nm_declare 52 = .ok (.aload_n 0, 1) := by decide +kernel
theorem d_Nm_declare_53 : decode b_Nm_declare 53 = .ok (.getfield 28, 3) := by decide +kernel
theorem d_Nm_declare_56 : decode b_Nm_declare 56 = .ok (.lload_n 1, 1) := by decide +kernel
theorem d_Nm_declare_57 : decode b_Nm_declare 57 = .ok (.lastore, 1) := by decide +kernel
theorem d_Nm_declare_58 : decode b_Nm_declare 58 = .ok (.aload_n 0, 1) := by decide +kernel
theorem d_Nm_declare_59 : decode b_Nm_declare 59 = .ok (.getfield 15, 3) := by decide +kernel
theorem d_Nm_declare_62 : decode b_Nm_declare 62 = .ok (.aload_n 0, 1) := by decide +kernel
theorem d_Nm_declare_63 : decode b_Nm_declare 63 = .ok (.getfield 28, 3) := by decide +kernel
theorem d_Nm_declare_66 : decode b_Nm_declare 66 = .ok (.iload_n 3, 1) := by decide +kernel
theorem d_Nm_declare_67 : decode b_Nm_declare 67 = .ok (.iastore, 1) := by decide +kernel
theorem d_Nm_declare_68 : decode b_Nm_declare 68 = .ok (.aload_n 0, 1) := by decide +kernel
theorem d_Nm_declare_69 : decode b_Nm_declare 69 = .ok (.getfield 19, 3) := by decide +kernel
theorem d_Nm_declare_72 : decode b_Nm_declare 72 = .ok (.aload_n 0, 1) := by decide +kernel
theorem d_Nm_declare_73 : decode b_Nm_declare 73 = .ok (.getfield 28, 3) := by decide +kernel
theorem d_Nm_declare_76 : decode b_Nm_declare 76 = .ok (.aload_n 0, 1) := by decide +kernel
theorem d_Nm_declare_77 : decode b_Nm_declare 77 = .ok (.getfield 32, 3) := by decide +kernel
theorem d_Nm_declare_80 : decode b_Nm_declare 80 = .ok (.iastore, 1) := by decide +kernel
theorem d_Nm_declare_81 : decode b_Nm_declare 81 = .ok (.aload_n 0, 1) := by decide +kernel
theorem d_Nm_declare_82 : decode b_Nm_declare 82 = .ok (.getfield 22, 3) := by decide +kernel
theorem d_Nm_declare_85 : decode b_Nm_declare 85 = .ok (.aload_n 0, 1) := by decide +kernel
theorem d_Nm_declare_86 : decode b_Nm_declare 86 = .ok (.getfield 28, 3) := by decide +kernel
theorem d_Nm_declare_89 : decode b_Nm_declare 89 = .ok (.iload_n 3, 1) := by decide +kernel
theorem d_Nm_declare_90 : decode b_Nm_declare 90 = .ok (.iconst 2, 1) := by decide +kernel
theorem d_Nm_declare_91 : decode b_Nm_declare 91 = .ok (.if_icmp .ne 10, 3) := by decide +kernel
theorem d_Nm_declare_94 : decode b_Nm_declare 94 = .ok (.aload_n 0, 1) := by decide +kernel
theorem d_Nm_declare_95 : decode b_Nm_declare 95 = .ok (.getfield 38, 3) := by decide +kernel
theorem d_Nm_declare_98 : decode b_Nm_declare 98 = .ok (.goto 12, 3) := by decide +kernel
theorem d_Nm_declare_101 : decode b_Nm_declare 101 = .ok (.aload_n 0, 1) := by decide +kernel
theorem d_Nm_declare_102 : decode b_Nm_declare 102 = .ok (.getfield 25, 3) := by decide +kernel
theorem d_Nm_declare_105 : decode b_Nm_declare 105 = .ok (.aload_n 0, 1) := by decide +kernel
theorem d_Nm_declare_106 : decode b_Nm_declare 106 = .ok (.getfield 32, 3) := by decide +kernel
theorem d_Nm_declare_109 : decode b_Nm_declare 109 = .ok (.iaload, 1) := by decide +kernel
theorem d_Nm_declare_110 : decode b_Nm_declare 110 = .ok (.iastore, 1) := by decide +kernel
theorem d_Nm_declare_111 : decode b_Nm_declare 111 = .ok (.aload_n 0, 1) := by decide +kernel
theorem d_Nm_declare_112 : decode b_Nm_declare 112 = .ok (.dup, 1) := by decide +kernel
theorem d_Nm_declare_113 : decode b_Nm_declare 113 = .ok (.getfield 28, 3) := by decide +kernel
theorem d_Nm_declare_116 : decode b_Nm_declare 116 = .ok (.iconst 1, 1) := by decide +kernel
theorem d_Nm_declare_117 : decode b_Nm_declare 117 = .ok (.iadd, 1) := by decide +kernel
theorem d_Nm_declare_118 : decode b_Nm_declare 118 = .ok (.putfield 28, 3) := by decide +kernel
theorem d_Nm_declare_121 : decode b_Nm_declare 121 = .ok (.iload_n 3, 1) := by decide +kernel
theorem d_Nm_declare_122 : decode b_Nm_declare 122 = .ok (.iconst 2, 1) := by decide +kernel
theorem d_Nm_declare_123 : decode b_Nm_declare 123 = .ok (.if_icmp .ne 16, 3) := by decide +kernel
theorem d_Nm_declare_126 : decode b_Nm_declare 126 = .ok (.aload_n 0, 1) := by decide +kernel
theorem d_Nm_declare_127 : decode b_Nm_declare 127 = .ok (.dup, 1) := by decide +kernel
theorem d_Nm_declare_128 : decode b_Nm_declare 128 = .ok (.getfield 38, 3) := by decide +kernel
theorem d_Nm_declare_131 : decode b_Nm_declare 131 = .ok (.iconst 1, 1) := by decide +kernel
theorem d_Nm_declare_132 : decode b_Nm_declare 132 = .ok (.iadd, 1) := by decide +kernel
theorem d_Nm_declare_133 : decode b_Nm_declare 133 = .ok (.putfield 38, 3) := by decide +kernel
theorem d_Nm_declare_136 : decode b_Nm_declare 136 = .ok (.goto 26, 3) := by decide +kernel
theorem d_Nm_declare_139 : decode b_Nm_declare 139 = .ok (.aload_n 0, 1) := by decide +kernel
theorem d_Nm_declare_140 : decode b_Nm_declare 140 = .ok (.dup, 1) := by decide +kernel
theorem d_Nm_declare_141 : decode b_Nm_declare 141 = .ok (.getfield 35, 3) := by decide +kernel
theorem d_Nm_declare_144 : decode b_Nm_declare 144 = .ok (.iconst 1, 1) := by decide +kernel
theorem d_Nm_declare_145 : decode b_Nm_declare 145 = .ok (.iadd, 1) := by decide +kernel
theorem d_Nm_declare_146 : decode b_Nm_declare 146 = .ok (.putfield 35, 3) := by decide +kernel
theorem d_Nm_declare_149 : decode b_Nm_declare 149 = .ok (.aload_n 0, 1) := by decide +kernel
theorem d_Nm_declare_150 : decode b_Nm_declare 150 = .ok (.getfield 25, 3) := by decide +kernel
theorem d_Nm_declare_153 : decode b_Nm_declare 153 = .ok (.aload_n 0, 1) := by decide +kernel
theorem d_Nm_declare_154 : decode b_Nm_declare 154 = .ok (.getfield 32, 3) := by decide +kernel
theorem d_Nm_declare_157 : decode b_Nm_declare 157 = .ok (.dup2, 1) := by decide +kernel
theorem d_Nm_declare_158 : decode b_Nm_declare 158 = .ok (.iaload, 1) := by decide +kernel
theorem d_Nm_declare_159 : decode b_Nm_declare 159 = .ok (.iconst 1, 1) := by decide +kernel
theorem d_Nm_declare_160 : decode b_Nm_declare 160 = .ok (.iadd, 1) := by decide +kernel
theorem d_Nm_declare_161 : decode b_Nm_declare 161 = .ok (.iastore, 1) := by decide +kernel
theorem d_Nm_declare_162 : decode b_Nm_declare 162 = .ok (.iconst 1, 1) := by decide +kernel
theorem d_Nm_declare_163 : decode b_Nm_declare 163 = .ok (.ireturn, 1) := by decide +kernel
theorem d_Nm_isFull_0 : decode b_Nm_isFull 0 = .ok (.iload_n 1, 1) := by decide +kernel
theorem d_Nm_isFull_1 : decode b_Nm_isFull 1 = .ok (.iconst 2, 1) := by decide +kernel
theorem d_Nm_isFull_2 : decode b_Nm_isFull 2 = .ok (.if_icmp .ne 20, 3) := by decide +kernel
theorem d_Nm_isFull_5 : decode b_Nm_isFull 5 = .ok (.aload_n 0, 1) := by decide +kernel
theorem d_Nm_isFull_6 : decode b_Nm_isFull 6 = .ok (.getfield 38, 3) := by decide +kernel
theorem d_Nm_isFull_9 : decode b_Nm_isFull 9 = .ok (.bipush 6, 2) := by decide +kernel
theorem d_Nm_isFull_11 : decode b_Nm_isFull 11 = .ok (.if_icmp .ne 7, 3) := by decide +kernel
theorem d_Nm_isFull_14 : decode b_Nm_isFull 14 = .ok (.iconst 1, 1) := by decide +kernel
theorem d_Nm_isFull_15 : decode b_Nm_isFull 15 = .ok (.goto 21, 3) := by decide +kernel
theorem d_Nm_isFull_18 : decode b_Nm_isFull 18 = .ok (.iconst 0, 1) := by decide +kernel
theorem d_Nm_isFull_19 : decode b_Nm_isFull 19 = .ok (.goto 17, 3) := by decide +kernel
theorem d_Nm_isFull_22 : decode b_Nm_isFull 22 = .ok (.aload_n 0, 1) := by decide +kernel
theorem d_Nm_isFull_23 : decode b_Nm_isFull 23 = .ok (.getfield 35, 3) := by decide +kernel
theorem d_Nm_isFull_26 : decode b_Nm_isFull 26 = .ok (.bipush 12, 2) := by decide +kernel
theorem d_Nm_isFull_28 : decode b_Nm_isFull 28 = .ok (.if_icmp .ne 7, 3) := by decide +kernel
theorem d_Nm_isFull_31 : decode b_Nm_isFull 31 = .ok (.iconst 1, 1) := by decide +kernel
theorem d_Nm_isFull_32 : decode b_Nm_isFull 32 = .ok (.goto 4, 3) := by decide +kernel
theorem d_Nm_isFull_35 : decode b_Nm_isFull 35 = .ok (.iconst 0, 1) := by decide +kernel
theorem d_Nm_isFull_36 : decode b_Nm_isFull 36 = .ok (.ireturn, 1) := by decide +kernel
theorem d_Nm_find_0 : decode b_Nm_find 0 = .ok (.aload_n 0, 1) := by decide +kernel
theorem d_Nm_find_1 : decode b_Nm_find 1 = .ok (.getfield 28, 3) := by decide +kernel
theorem d_Nm_find_4 : decode b_Nm_find 4 = .ok (.iconst 1, 1) := by decide +kernel
theorem d_Nm_find_5 : decode b_Nm_find 5 = .ok (.isub, 1) := by decide +kernel
theorem d_Nm_find_6 : decode b_Nm_find 6 = .ok (.istore_n 3, 1) := by decide +kernel
theorem d_Nm_find_7 : decode b_Nm_find 7 = .ok (.iload_n 3, 1) := by decide +kernel
theorem d_Nm_find_8 : decode b_Nm_find 8 = .ok (.ifCond .lt 22, 3) := by decide +kernel
theorem d_Nm_find_11 : decode b_Nm_find 11 = .ok (.aload_n 0, 1) := by decide +kernel
theorem d_Nm_find_12 : decode b_Nm_find 12 = .ok (.getfield 9, 3) := by decide +kernel
theorem d_Nm_find_15 : decode b_Nm_find 15 = .ok (.iload_n 3, 1) := by decide +kernel
theorem d_Nm_find_16 : decode b_Nm_find 16 = .ok (.laload, 1) := by decide +kernel
theorem d_Nm_find_17 : decode b_Nm_find 17 = .ok (.lload_n 1, 1) := by decide +kernel
theorem d_Nm_find_18 : decode b_Nm_find 18 = .ok (.lcmp, 1) := by decide +kernel
theorem d_Nm_find_19 : decode b_Nm_find 19 = .ok (.ifCond .ne 5, 3) := by decide +kernel
theorem d_Nm_find_22 : decode b_Nm_find 22 = .ok (.iload_n 3, 1) := by decide +kernel
theorem d_Nm_find_23 : decode b_Nm_find 23 = .ok (.ireturn, 1) := by decide +kernel
theorem d_Nm_find_24 : decode b_Nm_find 24 = .ok (.iinc 3 (-1), 3) := by decide +kernel
theorem d_Nm_find_27 : decode b_Nm_find 27 = .ok (.goto (-20), 3) := by decide +kernel
theorem d_Nm_find_30 : decode b_Nm_find 30 = .ok (.iconst (-1), 1) := by decide +kernel
theorem d_Nm_find_31 : decode b_Nm_find 31 = .ok (.ireturn, 1) := by decide +kernel
theorem d_Nm_isProcedure_0 : decode b_Nm_isProcedure 0 = .ok (.aload_n 0, 1) := by decide +kernel
theorem d_Nm_isProcedure_1 : decode b_Nm_isProcedure 1 = .ok (.getfield 15, 3) := by decide +kernel
theorem d_Nm_isProcedure_4 : decode b_Nm_isProcedure 4 = .ok (.iload_n 1, 1) := by decide +kernel
theorem d_Nm_isProcedure_5 : decode b_Nm_isProcedure 5 = .ok (.iaload, 1) := by decide +kernel
theorem d_Nm_isProcedure_6 : decode b_Nm_isProcedure 6 = .ok (.iconst 2, 1) := by decide +kernel
theorem d_Nm_isProcedure_7 : decode b_Nm_isProcedure 7 = .ok (.if_icmp .ne 7, 3) := by decide +kernel
theorem d_Nm_isProcedure_10 : decode b_Nm_isProcedure 10 = .ok (.iconst 1, 1) := by decide +kernel
theorem d_Nm_isProcedure_11 : decode b_Nm_isProcedure 11 = .ok (.goto 4, 3) := by decide +kernel
theorem d_Nm_isProcedure_14 : decode b_Nm_isProcedure 14 = .ok (.iconst 0, 1) := by decide +kernel
theorem d_Nm_isProcedure_15 : decode b_Nm_isProcedure 15 = .ok (.ireturn, 1) := by decide +kernel
theorem d_Nm_isReference_0 : decode b_Nm_isReference 0 = .ok (.aload_n 0, 1) := by decide +kernel
theorem d_Nm_isReference_1 : decode b_Nm_isReference 1 = .ok (.getfield 15, 3) := by decide +kernel
theorem d_Nm_isReference_4 : decode b_Nm_isReference 4 = .ok (.iload_n 1, 1) := by decide +kernel
theorem d_Nm_isReference_5 : decode b_Nm_isReference 5 = .ok (.iaload, 1) := by decide +kernel
theorem d_Nm_isReference_6 : decode b_Nm_isReference 6 = .ok (.iconst 1, 1) := by decide +kernel
theorem d_Nm_isReference_7 : decode b_Nm_isReference 7 = .ok (.if_icmp .ne 7, 3) := by decide +kernel
theorem d_Nm_isReference_10 : decode b_Nm_isReference 10 = .ok (.iconst 1, 1) := by decide +kernel
theorem d_Nm_isReference_11 : decode b_Nm_isReference 11 = .ok (.goto 4, 3) := by decide +kernel
theorem d_Nm_isReference_14 : decode b_Nm_isReference 14 = .ok (.iconst 0, 1) := by decide +kernel
theorem d_Nm_isReference_15 : decode b_Nm_isReference 15 = .ok (.ireturn, 1) := by decide +kernel
theorem d_Nm_hops_0 : decode b_Nm_hops 0 = .ok (.aload_n 0, 1) := by decide +kernel
theorem d_Nm_hops_1 : decode b_Nm_hops 1 = .ok (.getfield 32, 3) := by decide +kernel
theorem d_Nm_hops_4 : decode b_Nm_hops 4 = .ok (.aload_n 0, 1) := by decide +kernel
theorem d_Nm_hops_5 : decode b_Nm_hops 5 = .ok (.getfield 19, 3) := by decide +kernel
theorem d_Nm_hops_8 : decode b_Nm_hops 8 = .ok (.iload_n 1, 1) := by decide +kernel
theorem d_Nm_hops_9 : decode b_Nm_hops 9 = .ok (.iaload, 1) := by decide +kernel
theorem d_Nm_hops_10 : decode b_Nm_hops 10 = .ok (.isub, 1) := by decide +kernel
theorem d_Nm_hops_11 : decode b_Nm_hops 11 = .ok (.ireturn, 1) := by decide +kernel
theorem d_Nm_number_0 : decode b_Nm_number 0 = .ok (.aload_n 0, 1) := by decide +kernel
theorem d_Nm_number_1 : decode b_Nm_number 1 = .ok (.getfield 22, 3) := by decide +kernel
theorem d_Nm_number_4 : decode b_Nm_number 4 = .ok (.iload_n 1, 1) := by decide +kernel
theorem d_Nm_number_5 : decode b_Nm_number 5 = .ok (.iaload, 1) := by decide +kernel
theorem d_Nm_number_6 : decode b_Nm_number 6 = .ok (.ireturn, 1) := by decide +kernel
theorem d_Nm_lastProcedure_0 : decode b_Nm_lastProcedure 0 = .ok (.aload_n 0, 1) := by decide +kernel
theorem d_Nm_lastProcedure_1 : decode b_Nm_lastProcedure 1 = .ok (.getfield 38, 3) := by decide +kernel
theorem d_Nm_lastProcedure_4 : decode b_Nm_lastProcedure 4 = .ok (.iconst 1, 1) := by decide +kernel
theorem d_Nm_lastProcedure_5 : decode b_Nm_lastProcedure 5 = .ok (.isub, 1) := by decide +kernel
theorem d_Nm_lastProcedure_6 : decode b_Nm_lastProcedure 6 = .ok (.ireturn, 1) := by decide +kernel
end
section
theorem d_PM_init_0 : decode b_PM_init 0 = .ok (.aload_n 0, 1) := by decide +kernel
theorem d_PM_init_1 : decode b_PM_init 1 = .ok (.invokespecial 1, 3) := by decide +kernel
theorem d_PM_init_4 : decode b_PM_init 4 = .ok (.aload_n 0, 1) := by decide +kernel
theorem d_PM_init_5 : decode b_PM_init 5 = .ok (.sipush 300, 3) := by decide +kernel
theorem d_PM_init_8 : decode b_PM_init 8 = .ok (.newarray .char, 2) := by decide +kernel
theorem d_PM_init_10 : decode b_PM_init 10 = .ok (.putfield 9, 3) := by decide +kernel
theorem d_PM_init_13 : decode b_PM_init 13 = .ok (.aload_n 0, 1) := by decide +kernel
theorem d_PM_init_14 : decode b_PM_init 14 = .ok (.iconst 0, 1) := by decide +kernel
theorem d_PM_init_15 : decode b_PM_init 15 = .ok (.putfield 13, 3) := by decide +kernel
theorem d_PM_init_18 : decode b_PM_init 18 = .ok (.aload_n 0, 1) := by decide +kernel
theorem d_PM_init_19 : decode b_PM_init 19 = .ok (.new 17, 3) := by decide +kernel
theorem d_PM_init_22 : decode b_PM_init 22 = .ok (.dup, 1) := by decide +kernel
theorem d_PM_init_23 : decode b_PM_init 23 = .ok (.invokespecial 19, 3) := by decide +kernel
theorem d_PM_init_26 : decode b_PM_init 26 = .ok (.putfield 20, 3) := by decide +kernel
theorem d_PM_init_29 : decode b_PM_init 29 = .ok (.aload_n 0, 1) := by decide +kernel
theorem d_PM_init_30 : decode b_PM_init 30 = .ok (.new 24, 3) := by decide +kernel
theorem d_PM_init_33 : decode b_PM_init 33 = .ok (.dup, 1) := by decide +kernel
theorem d_PM_init_34 : decode b_PM_init 34 = .ok (.invokespecial 26, 3) := by decide +kernel
theorem d_PM_init_37 : decode b_PM_init 37 = .ok (.putfield 27, 3) := by decide +kernel
theorem d_PM_init_40 : decode b_PM_init 40 = .ok (.aload_n 0, 1) := by decide +kernel
theorem d_PM_init_41 : decode b_PM_init 41 = .ok (.iconst 0, 1) := by decide +kernel
theorem d_PM_init_42 : decode b_PM_init 42 = .ok (.putfield 31, 3) := by decide +kernel
theorem d_PM_init_45 : decode b_PM_init 45 = .ok (.return_, 1) := by decide +kernel
theorem d_PM_append_0 : decode b_PM_append 0 = .ok (.iload_n 3, 1) := by decide +kernel
theorem d_PM_append_1 : decode b_PM_append 1 = .ok (.iconst 1, 1) := by decide +kernel
theorem d_PM_append_2 : decode b_PM_append 2 = .ok (.if_icmp .lt 17, 3) := by decide +kernel
theorem d_PM_append_5 : decode b_PM_append 5 = .ok (.iload_n 3, 1) := by decide +kernel
theorem d_PM_append_6 : decode b_PM_append 6 = .ok (.bipush 8, 2) := by decide +kernel
theorem d_PM_append_8 : decode b_PM_append 8 = .ok (.if_icmp .gt 11, 3) := by decide +kernel
theorem d_PM_append_11 : decode b_PM_append 11 = .ok (.lload_n 1, 1) := by decide +kernel
theorem d_PM_append_12 : decode b_PM_append 12 = .ok (.iload_n 3, 1) := by decide +kernel
theorem d_PM_append_13 : decode b_PM_append 13 = .ok (.invokestatic 35, 3) := by decide +kernel
theorem d_PM_append_16 : decode b_PM_append 16 = .ok (.ifCond .ne 11, 3) := by decide +kernel
theorem d_PM_append_19 : decode b_PM_append 19 = .ok (.new 39, 3) := by decide +kernel
theorem d_PM_append_22 : decode b_PM_append 22 = .ok (.dup, 1) := by decide +kernel
theorem d_PM_append_23 : decode b_PM_append 23 = .ok (.invokespecial 41, 3) := by decide +kernel
theorem d_PM_append_26 : decode b_PM_append 26 = .ok (.athrow, 1) := by decide +kernel
theorem d_PM_append_27 : decode b_PM_append 27 = .ok (.aload_n 0, 1) := by decide +kernel
theorem d_PM_append_28 : decode b_PM_append 28 = .ok (.getfield 13, 3) := by decide +kernel
theorem d_PM_append_31 : decode b_PM_append 31 = .ok (.iload_n 3, 1) := by decide +kernel
theorem d_PM_append_32 : decode b_PM_append 32 = .ok (.iadd, 1) := by decide +kernel
theorem d_PM_append_33 : decode b_PM_append 33 = .ok (.sipush 300, 3) := by decide +kernel
theorem d_PM_append_36 : decode b_PM_append 36 = .ok (.if_icmp .le 11, 3) := by decide +kernel
theorem d_PM_append_39 : decode b_PM_append 39 = .ok (.new 42, 3) := by decide +kernel
theorem d_PM_append_42 : decode b_PM_append 42 = .ok (.dup, 1) := by decide +kernel
theorem d_PM_append_43 : decode b_PM_append 43 = .ok (.invokespecial 44, 3) := by decide +kernel
theorem d_PM_append_46 : decode b_PM_append 46 = .ok (.athrow, 1) := by decide +kernel
theorem d_PM_append_47 : decode b_PM_append 47 = .ok (.iload_n 3, 1) := by decide +kernel
theorem d_PM_append_48 : decode b_PM_append 48 = .ok (.iconst 1, 1) := by decide +kernel
theorem d_PM_append_49 : decode b_PM_append 49 = .ok (.isub, 1) := by decide +kernel
theorem d_PM_append_50 : decode b_PM_append 50 = .ok (.istore 4, 2) := by decide +kernel
theorem d_PM_append_52 : decode b_PM_append 52 = .ok (.iload 4, 2) := by decide +kernel
theorem d_PM_append_54 : decode b_PM_append 54 = .ok (.ifCond .lt 35, 3) := by decide +kernel
theorem d_PM_append_57 : decode b_PM_append 57 = .ok (.aload_n 0, 1) := by decide +kernel
theorem d_PM_append_58 : decode b_PM_append 58 = .ok (.getfield 9, 3) := by decide +kernel
theorem d_PM_append_61 : decode b_PM_append 61 = .ok (.aload_n 0, 1) := by decide +kernel
theorem d_PM_append_62 : decode b_PM_append 62 = .ok (.getfield 13, 3) := by decide +kernel
theorem d_PM_append_65 : decode b_PM_append 65 = .ok (.lload_n 1, 1) := by decide +kernel
theorem d_PM_append_66 : decode b_PM_append 66 = .ok (.iload 4, 2) := by decide +kernel
theorem d_PM_append_68 : decode b_PM_append 68 = .ok (.invokestatic 45, 3) := by decide +kernel
theorem d_PM_append_71 : decode b_PM_append 71 = .ok (.i2c, 1) := by decide +kernel
theorem d_PM_append_72 : decode b_PM_append 72 = .ok (.castore, 1) := by decide +kernel
theorem d_PM_append_73 : decode b_PM_append 73 = .ok (.aload_n 0, 1) := by decide +kernel
theorem d_PM_append_74 : decode b_PM_append 74 = .ok (.dup, 1) := by decide +kernel
theorem d_PM_append_75 : decode b_PM_append 75 = .ok (.getfield 13, 3) := by decide +kernel
theorem d_PM_append_78 : decode b_PM_append 78 = .ok (.iconst 1, 1) := by decide +kernel
theorem d_PM_append_79 : decode b_PM_append 79 = .ok (.iadd, 1) := by decide +kernel
theorem d_PM_append_80 : decode b_PM_append 80 = .ok (.putfield 13, 3) := by decide +kernel
theorem d_PM_append_83 : decode b_PM_append 83 = .ok (.iinc 4 (-1), 3) := by decide +kernel
theorem d_PM_append_86 : decode b_PM_append 86 = .ok (.goto (-34), 3) := by decide +kernel
theorem d_PM_append_89 : decode b_PM_append 89 = .ok (.aload_n 0, 1) := by decide +kernel
theorem d_PM_append_90 : decode b_PM_append 90 = .ok (.getfield 13, 3) := by decide +kernel
theorem d_PM_append_93 : decode b_PM_append 93 = .ok (.ireturn, 1) := by decide +kernel
theorem d_PM_cut_0 : decode b_PM_cut 0 = .ok (.iload_n 1, 1) := by decide +kernel
theorem d_PM_cut_1 : decode b_PM_cut 1 = .ok (.ifCond .lt 11, 3) := by decide +kernel
theorem d_PM_cut_4 : decode b_PM_cut 4 = .ok (.iload_n 1, 1) := by decide +kernel
theorem d_PM_cut_5 : decode b_PM_cut 5 = .ok (.aload_n 0, 1) := by decide +kernel
theorem d_PM_cut_6 : decode b_PM_cut 6 = .ok (.getfield 13, 3) := by decide +kernel
theorem d_PM_cut_9 : decode b_PM_cut 9 = .ok (.if_icmp .le 11, 3) := by decide +kernel
theorem d_PM_cut_12 : decode b_PM_cut 12 = .ok (.new 39, 3) := by decide +kernel
theorem d_PM_cut_15 : decode b_PM_cut 15 = .ok (.dup, 1) := by decide +kernel
theorem d_PM_cut_16 : decode b_PM_cut 16 = .ok (.invokespecial 41, 3) := by decide +kernel
theorem d_PM_cut_19 : decode b_PM_cut 19 = .ok (.athrow, 1) := by decide +kernel
theorem d_PM_cut_20 : decode b_PM_cut 20 = .ok (.aload_n 0, 1) := by decide +kernel
theorem d_PM_cut_21 : decode b_PM_cut 21 = .ok (.dup, 1) := by decide +kernel
theorem d_PM_cut_22 : decode b_PM_cut 22 = .ok (.getfield 13, 3) := by decide +kernel
theorem d_PM_cut_25 : decode b_PM_cut 25 = .ok (.iload_n 1, 1) := by decide +kernel
theorem d_PM_cut_26 : decode b_PM_cut 26 = .ok (.isub, 1) := by decide +kernel
theorem d_PM_cut_27 : decode b_PM_cut 27 = .ok (.putfield 13, 3) := by decide +kernel
theorem d_PM_cut_30 : decode b_PM_cut 30 = .ok (.aload_n 0, 1) := by decide +kernel
theorem d_PM_cut_31 : decode b_PM_cut 31 = .ok (.getfield 13, 3) := by decide +kernel
theorem d_PM_cut_34 : decode b_PM_cut 34 = .ok (.ireturn, 1) := by decide +kernel
theorem d_PM_compile_0 : decode b_PM_compile 0 = .ok (.aload_n 0, 1) := by decide +kernel
theorem d_PM_compile_1 : decode b_PM_compile 1 = .ok (.getfield 20, 3) := by decide +kernel
theorem d_PM_compile_4 : decode b_PM_compile 4 = .ok (.aload_n 0, 1) := by decide +kernel
theorem d_PM_compile_5 : decode b_PM_compile 5 = .ok (.getfield 9, 3) := by decide +kernel
theorem d_PM_compile_8 : decode b_PM_compile 8 = .ok (.aload_n 0, 1) := by decide +kernel
theorem d_PM_compile_9 : decode b_PM_compile 9 = .ok (.getfield 13, 3) := by decide +kernel
theorem d_PM_compile_12 : decode b_PM_compile 12 = .ok (.invokevirtual 49, 3) := by decide +kernel
theorem d_PM_compile_15 : decode b_PM_compile 15 = .ok (.istore_n 1, 1) := by decide +kernel
theorem d_PM_compile_16 : decode b_PM_compile 16 = .ok (.aload_n 0, 1) := by decide +kernel
theorem d_PM_compile_17 : decode b_PM_compile 17 = .ok (.getfield 27, 3) := by decide +kernel
theorem d_PM_compile_20 : decode b_PM_compile 20 = .ok (.getfield 53, 3) := by decide +kernel
theorem d_PM_compile_23 : decode b_PM_compile 23 = .ok (.astore_n 2, 1) := by decide +kernel
theorem d_PM_compile_24 : decode b_PM_compile 24 = .ok (.aload_n 0, 1) := by decide +kernel
theorem d_PM_compile_25 : decode b_PM_compile 25 = .ok (.getfield 27, 3) := by decide +kernel
theorem d_PM_compile_28 : decode b_PM_compile 28 = .ok (.aload_n 0, 1) := by decide +kernel
theorem d_PM_compile_29 : decode b_PM_compile 29 = .ok (.getfield 20, 3) := by decide +kernel
theorem d_PM_compile_32 : decode b_PM_compile 32 = .ok (.getfield 57, 3) := by decide +kernel
theorem d_PM_compile_35 : decode b_PM_compile 35 = .ok (.putfield 53, 3) := by decide +kernel
theorem d_PM_compile_38 : decode b_PM_compile 38 = .ok (.aload_n 0, 1) := by decide +kernel
theorem d_PM_compile_39 : decode b_PM_compile 39 = .ok (.getfield 20, 3) := by decide +kernel
theorem d_PM_compile_42 : decode b_PM_compile 42 = .ok (.aload_n 2, 1) := by decide +kernel
theorem d_PM_compile_43 : decode b_PM_compile 43 = .ok (.putfield 57, 3) := by decide +kernel
theorem d_PM_compile_46 : decode b_PM_compile 46 = .ok (.aload_n 0, 1) := by decide +kernel
theorem d_PM_compile_47 : decode b_PM_compile 47 = .ok (.iconst 1, 1) := by decide +kernel
theorem d_PM_compile_48 : decode b_PM_compile 48 = .ok (.putfield 31, 3) := by decide +kernel
theorem d_PM_compile_51 : decode b_PM_compile 51 = .ok (.iload_n 1, 1) := by decide +kernel
theorem d_PM_compile_52 : decode b_PM_compile 52 = .ok (.ireturn, 1) := by decide +kernel
theorem d_PM_fault_0 : decode b_PM_fault 0 = .ok (.aload_n 0, 1) := by decide +kernel
theorem d_PM_fault_1 : decode b_PM_fault 1 = .ok (.getfield 20, 3) := by decide +kernel
theorem d_PM_fault_4 : decode b_PM_fault 4 = .ok (.getfield 60, 3) := by decide +kernel
theorem d_PM_fault_7 : decode b_PM_fault 7 = .ok (.ireturn, 1) := by decide +kernel
theorem d_PM_run_0 : decode b_PM_run 0 = .ok (.aload_n 0, 1) := by decide +kernel
theorem d_PM_run_1 : decode b_PM_run 1 = .ok (.getfield 31, 3) := by decide +kernel
theorem d_PM_run_4 : decode b_PM_run 4 = .ok (.ifCond .ne 11, 3) := by decide +kernel
theorem d_PM_run_7 : decode b_PM_run 7 = .ok (.new 63, 3) := by decide +kernel
theorem d_PM_run_10 : decode b_PM_run 10 = .ok (.dup, 1) := by decide +kernel
theorem d_PM_run_11 : decode b_PM_run 11 = .ok (.invokespecial 65, 3) := by decide +kernel
theorem d_PM_run_14 : decode b_PM_run 14 = .ok (.athrow, 1) := by decide +kernel
theorem d_PM_run_15 : decode b_PM_run 15 = .ok (.aload_n 0, 1) := by decide +kernel
theorem d_PM_run_16 : decode b_PM_run 16 = .ok (.getfield 27, 3) := by decide +kernel
theorem d_PM_run_19 : decode b_PM_run 19 = .ok (.invokevirtual 66, 3) := by decide +kernel
theorem d_PM_run_22 : decode b_PM_run 22 = .ok (.aload_n 0, 1) := by decide +kernel
theorem d_PM_run_23 : decode b_PM_run 23 = .ok (.getfield 27, 3) := by decide +kernel
theorem d_PM_run_26 : decode b_PM_run 26 = .ok (.getfield 69, 3) := by decide +kernel
theorem d_PM_run_29 : decode b_PM_run 29 = .ok (.ireturn, 1) := by decide +kernel
theorem d_PM_output_0 : decode b_PM_output 0 = .ok (.iload_n 1, 1) := by decide +kernel
theorem d_PM_output_1 : decode b_PM_output 1 = .ok (.ifCond .lt 14, 3) := by decide +kernel
theorem d_PM_output_4 : decode b_PM_output 4 = .ok (.iload_n 1, 1) := by decide +kernel
theorem d_PM_output_5 : decode b_PM_output 5 = .ok (.aload_n 0, 1) := by decide +kernel
theorem d_PM_output_6 : decode b_PM_output 6 = .ok (.getfield 27, 3) := by decide +kernel
theorem d_PM_output_9 : decode b_PM_output 9 = .ok (.getfield 69, 3) := by decide +kernel
theorem d_PM_output_12 : decode b_PM_output 12 = .ok (.if_icmp .lt 11, 3) := by decide +kernel
theorem d_PM_output_15 : decode b_PM_output 15 = .ok (.new 63, 3) := by decide +kernel
theorem d_PM_output_18 : decode b_PM_output 18 = .ok (.dup, 1) := by decide +kernel
theorem d_PM_output_19 : decode b_PM_output 19 = .ok (.invokespecial 65, 3) := by decide +kernel
theorem d_PM_output_22 : decode b_PM_output 22 = .ok (.athrow, 1) := by decide +kernel
theorem d_PM_output_23 : decode b_PM_output 23 = .ok (.aload_n 0, 1) := by decide +kernel
theorem d_PM_output_24 : decode b_PM_output 24 = .ok (.getfield 27, 3) := by decide +kernel
theorem d_PM_output_27 : decode b_PM_output 27 = .ok (.getfield 72, 3) := by decide +kernel
theorem d_PM_output_30 : decode b_PM_output 30 = .ok (.iload_n 1, 1) := by decide +kernel
theorem d_PM_output_31 : decode b_PM_output 31 = .ok (.iaload, 1) := by decide +kernel
theorem d_PM_output_32 : decode b_PM_output 32 = .ok (.ireturn, 1) := by decide +kernel
theorem d_PM_count_0 : decode b_PM_count 0 = .ok (.iload_n 1, 1) := by decide +kernel
theorem d_PM_count_1 : decode b_PM_count 1 = .ok (.tableswitch 72 0 4 #[35, 43, 51, 59, 67], 35) := by decide +kernel
theorem d_PM_count_36 : decode b_PM_count 36 = .ok (.aload_n 0, 1) := by decide +kernel
theorem d_PM_count_37 : decode b_PM_count 37 = .ok (.getfield 27, 3) := by decide +kernel
theorem d_PM_count_40 : decode b_PM_count 40 = .ok (.getfield 69, 3) := by decide +kernel
theorem d_PM_count_43 : decode b_PM_count 43 = .ok (.ireturn, 1) := by decide +kernel
theorem d_PM_count_44 : decode b_PM_count 44 = .ok (.aload_n 0, 1) := by decide +kernel
theorem d_PM_count_45 : decode b_PM_count 45 = .ok (.getfield 27, 3) := by decide +kernel
theorem d_PM_count_48 : decode b_PM_count 48 = .ok (.getfield 76, 3) := by decide +kernel
theorem d_PM_count_51 : decode b_PM_count 51 = .ok (.ireturn, 1) := by decide +kernel
theorem d_PM_count_52 : decode b_PM_count 52 = .ok (.aload_n 0, 1) := by decide +kernel
theorem d_PM_count_53 : decode b_PM_count 53 = .ok (.getfield 27, 3) := by decide +kernel
theorem d_PM_count_56 : decode b_PM_count 56 = .ok (.getfield 79, 3) := by decide +kernel
theorem d_PM_count_59 : decode b_PM_count 59 = .ok (.ireturn, 1) := by decide +kernel
theorem d_PM_count_60 : decode b_PM_count 60 = .ok (.aload_n 0, 1) := by decide +kernel
theorem d_PM_count_61 : decode b_PM_count 61 = .ok (.getfield 27, 3) := by decide +kernel
theorem d_PM_count_64 : decode b_PM_count 64 = .ok (.getfield 82, 3) := by decide +kernel
theorem d_PM_count_67 : decode b_PM_count 67 = .ok (.ireturn, 1) := by decide +kernel
theorem d_PM_count_68 : decode b_PM_count 68 = .ok (.aload_n 0, 1) := by decide +kernel
theorem d_PM_count_69 : decode b_PM_count 69 = .ok (.getfield 13, 3) := by decide +kernel
theorem d_PM_count_72 : decode b_PM_count 72 = .ok (.ireturn, 1) := by decide +kernel
theorem d_PM_count_73 : decode b_PM_count 73 = .ok (.new 39, 3) := by decide +kernel
theorem d_PM_count_76 : decode b_PM_count 76 = .ok (.dup, 1) := by decide +kernel
theorem d_PM_count_77 : decode b_PM_count 77 = .ok (.invokespecial 41, 3) := by decide +kernel
theorem d_PM_count_80 : decode b_PM_count 80 = .ok (.athrow, 1) := by decide +kernel
theorem d_PM_hasOnlyCodes_0 : decode b_PM_hasOnlyCodes 0 = .ok (.iconst 0, 1) := by decide +kernel
theorem d_PM_hasOnlyCodes_1 : decode b_PM_hasOnlyCodes 1 = .ok (.istore_n 3, 1) := by decide +kernel
theorem d_PM_hasOnlyCodes_2 : decode b_PM_hasOnlyCodes 2 = .ok (.iload_n 3, 1) := by decide +kernel
theorem d_PM_hasOnlyCodes_3 : decode b_PM_hasOnlyCodes 3 = .ok (.iload_n 2, 1) := by decide +kernel
theorem d_PM_hasOnlyCodes_4 : decode b_PM_hasOnlyCodes 4 = .ok (.if_icmp .ge 32, 3) := by decide +kernel
theorem d_PM_hasOnlyCodes_7 : decode b_PM_hasOnlyCodes 7 = .ok (.lload_n 0, 1) := by decide +kernel
theorem d_PM_hasOnlyCodes_8 : decode b_PM_hasOnlyCodes 8 = .ok (.iload_n 3, 1) := by decide +kernel
theorem d_PM_hasOnlyCodes_9 : decode b_PM_hasOnlyCodes 9 = .ok (.invokestatic 45, 3) := by decide +kernel
theorem d_PM_hasOnlyCodes_12 : decode b_PM_hasOnlyCodes 12 = .ok (.istore 4, 2) := by decide +kernel
theorem d_PM_hasOnlyCodes_14 : decode b_PM_hasOnlyCodes 14 = .ok (.iload 4, 2) := by decide +kernel
theorem d_PM_hasOnlyCodes_16 : decode b_PM_hasOnlyCodes 16 = .ok (.bipush 32, 2) := by decide +kernel
theorem d_PM_hasOnlyCodes_18 : decode b_PM_hasOnlyCodes 18 = .ok (.if_icmp .lt 10, 3) := by decide +kernel
theorem d_PM_hasOnlyCodes_21 : decode b_PM_hasOnlyCodes 21 = .ok (.iload 4, 2) := by decide +kernel
theorem d_PM_hasOnlyCodes_23 : decode b_PM_hasOnlyCodes 23 = .ok (.bipush 126, 2) := by decide +kernel
theorem d_PM_hasOnlyCodes_25 : decode b_PM_hasOnlyCodes 25 = .ok (.if_icmp .le 5, 3) := by decide +kernel
theorem d_PM_hasOnlyCodes_28 : decode b_PM_hasOnlyCodes 28 = .ok (.iconst 0, 1) := by decide +kernel
theorem d_PM_hasOnlyCodes_29 : decode b_PM_hasOnlyCodes 29 = .ok (.ireturn, 1) := by decide +kernel
theorem d_PM_hasOnlyCodes_30 : decode b_PM_hasOnlyCodes 30 = .ok (.iinc 3 1, 3) := by decide +kernel
theorem d_PM_hasOnlyCodes_33 : decode b_PM_hasOnlyCodes 33 = .ok (.goto (-31), 3) := by decide +kernel
theorem d_PM_hasOnlyCodes_36 : decode b_PM_hasOnlyCodes 36 = .ok (.iconst 1, 1) := by decide +kernel
theorem d_PM_hasOnlyCodes_37 : decode b_PM_hasOnlyCodes 37 = .ok (.ireturn, 1) := by decide +kernel
theorem d_PM_byteAt_0 : decode b_PM_byteAt 0 = .ok (.lload_n 0, 1) := by decide +kernel
theorem d_PM_byteAt_1 : decode b_PM_byteAt 1 = .ok (.bipush 8, 2) := by decide +kernel
theorem d_PM_byteAt_3 : decode b_PM_byteAt 3 = .ok (.iload_n 2, 1) := by decide +kernel
theorem d_PM_byteAt_4 : decode b_PM_byteAt 4 = .ok (.imul, 1) := by decide +kernel
theorem d_PM_byteAt_5 : decode b_PM_byteAt 5 = .ok (.lushr, 1) := by decide +kernel
theorem d_PM_byteAt_6 : decode b_PM_byteAt 6 = .ok (.l2i, 1) := by decide +kernel
theorem d_PM_byteAt_7 : decode b_PM_byteAt 7 = .ok (.sipush 255, 3) := by decide +kernel
theorem d_PM_byteAt_10 : decode b_PM_byteAt 10 = .ok (.iand, 1) := by decide +kernel
theorem d_PM_byteAt_11 : decode b_PM_byteAt 11 = .ok (.ireturn, 1) := by decide +kernel
end
section
theorem d_Tk_init_0 : decode b_Tk_init 0 = .ok (.aload_n 0, 1) := by decide +kernel
theorem d_Tk_init_1 : decode b_Tk_init 1 = .ok (.invokespecial 3, 3) := by decide +kernel
theorem d_Tk_init_4 : decode b_Tk_init 4 = .ok (.aload_n 0, 1) := by decide +kernel
theorem d_Tk_init_5 : decode b_Tk_init 5 = .ok (.sipush 151, 3) := by decide +kernel
theorem d_Tk_init_8 : decode b_Tk_init 8 = .ok (.anewarray 9, 3) := by decide +kernel
theorem d_Tk_init_11 : decode b_Tk_init 11 = .ok (.putfield 11, 3) := by decide +kernel
theorem d_Tk_init_14 : decode b_Tk_init 14 = .ok (.aload_n 0, 1) := by decide +kernel
theorem d_Tk_init_15 : decode b_Tk_init 15 = .ok (.sipush 151, 3) := by decide +kernel
theorem d_Tk_init_18 : decode b_Tk_init 18 = .ok (.newarray .int, 2) := by decide +kernel
theorem d_Tk_init_20 : decode b_Tk_init 20 = .ok (.putfield 17, 3) := by decide +kernel
theorem d_Tk_init_23 : decode b_Tk_init 23 = .ok (.aload_n 0, 1) := by decide +kernel
theorem d_Tk_init_24 : decode b_Tk_init 24 = .ok (.sipush 151, 3) := by decide +kernel
theorem d_Tk_init_27 : decode b_Tk_init 27 = .ok (.newarray .long, 2) := by decide +kernel
theorem d_Tk_init_29 : decode b_Tk_init 29 = .ok (.putfield 21, 3) := by decide +kernel
theorem d_Tk_init_32 : decode b_Tk_init 32 = .ok (.aload_n 0, 1) := by decide +kernel
theorem d_Tk_init_33 : decode b_Tk_init 33 = .ok (.iconst 0, 1) := by decide +kernel
theorem d_Tk_init_34 : decode b_Tk_init 34 = .ok (.newarray .char, 2) := by decide +kernel
theorem d_Tk_init_36 : decode b_Tk_init 36 = .ok (.putfield 25, 3) := by decide +kernel
theorem d_Tk_init_39 : decode b_Tk_init 39 = .ok (.aload_n 0, 1) := by decide +kernel
theorem d_Tk_init_40 : decode b_Tk_init 40 = .ok (.iconst 0, 1) := by decide +kernel
theorem d_Tk_init_41 : decode b_Tk_init 41 = .ok (.putfield 29, 3) := by decide +kernel
theorem d_Tk_init_44 : decode b_Tk_init 44 = .ok (.aload_n 0, 1) := by decide +kernel
theorem d_Tk_init_45 : decode b_Tk_init 45 = .ok (.iconst 0, 1) := by decide +kernel
theorem d_Tk_init_46 : decode b_Tk_init 46 = .ok (.putfield 33, 3) := by decide +kernel
theorem d_Tk_init_49 : decode b_Tk_init 49 = .ok (.aload_n 0, 1) := by decide +kernel
theorem d_Tk_init_50 : decode b_Tk_init 50 = .ok (.iconst 0, 1) := by decide +kernel
theorem d_Tk_init_51 : decode b_Tk_init 51 = .ok (.putfield 36, 3) := by decide +kernel
theorem d_Tk_init_54 : decode b_Tk_init 54 = .ok (.return_, 1) := by decide +kernel
theorem d_Tk_read_0 : decode b_Tk_read 0 = .ok (.aload_n 0, 1) := by decide +kernel
theorem d_Tk_read_1 : decode b_Tk_read 1 = .ok (.aload_n 1, 1) := by decide +kernel
theorem d_Tk_read_2 : decode b_Tk_read 2 = .ok (.putfield 25, 3) := by decide +kernel
theorem d_Tk_read_5 : decode b_Tk_read 5 = .ok (.aload_n 0, 1) := by decide +kernel
theorem d_Tk_read_6 : decode b_Tk_read 6 = .ok (.iload_n 2, 1) := by decide +kernel
theorem d_Tk_read_7 : decode b_Tk_read 7 = .ok (.putfield 29, 3) := by decide +kernel
theorem d_Tk_read_10 : decode b_Tk_read 10 = .ok (.aload_n 0, 1) := by decide +kernel
theorem d_Tk_read_11 : decode b_Tk_read 11 = .ok (.iconst 0, 1) := by decide +kernel
theorem d_Tk_read_12 : decode b_Tk_read 12 = .ok (.putfield 33, 3) := by decide +kernel
theorem d_Tk_read_15 : decode b_Tk_read 15 = .ok (.aload_n 0, 1) := by decide +kernel
theorem d_Tk_read_16 : decode b_Tk_read 16 = .ok (.iconst 0, 1) := by decide +kernel
theorem d_Tk_read_17 : decode b_Tk_read 17 = .ok (.putfield 36, 3) := by decide +kernel
theorem d_Tk_read_20 : decode b_Tk_read 20 = .ok (.iconst 1, 1) := by decide +kernel
theorem d_Tk_read_21 : decode b_Tk_read 21 = .ok (.istore_n 3, 1) := by decide +kernel
theorem d_Tk_read_22 : decode b_Tk_read 22 = .ok (.iconst 0, 1) := by decide +kernel
theorem d_Tk_read_23 : decode b_Tk_read 23 = .ok (.istore 4, 2) := by decide +kernel
theorem d_Tk_read_25 : decode b_Tk_read 25 = .ok (.iload 4, 2) := by decide +kernel
theorem d_Tk_read_27 : decode b_Tk_read 27 = .ok (.sipush 150, 3) := by decide +kernel
theorem d_Tk_read_30 : decode b_Tk_read 30 = .ok (.if_icmp .gt 58, 3) := by decide +kernel
theorem d_Tk_read_33 : decode b_Tk_read 33 = .ok (.iload_n 3, 1) := by decide +kernel
theorem d_Tk_read_34 : decode b_Tk_read 34 = .ok (.ifCond .eq 54, 3) := by decide +kernel
theorem d_Tk_read_37 : decode b_Tk_read 37 = .ok (.aload_n 0, 1) := by decide +kernel
theorem d_Tk_read_38 : decode b_Tk_read 38 = .ok (.getfield 11, 3) := by decide +kernel
theorem d_Tk_read_41 : decode b_Tk_read 41 = .ok (.iload 4, 2) := by decide +kernel
theorem d_Tk_read_43 : decode b_Tk_read 43 = .ok (.aload_n 0, 1) := by decide +kernel
theorem d_Tk_read_44 : decode b_Tk_read 44 = .ok (.iload 4, 2) := by decide +kernel
theorem d_Tk_read_46 : decode b_Tk_read 46 = .ok (.invokevirtual 39, 3) := by decide +kernel
theorem d_Tk_read_49 : decode b_Tk_read 49 = .ok (.aastore, 1) := by decide +kernel
theorem d_Tk_read_50 : decode b_Tk_read 50 = .ok (.aload_n 0, 1) := by decide +kernel
theorem d_Tk_read_51 : decode b_Tk_read 51 = .ok (.getfield 11, 3) := by decide +kernel
theorem d_Tk_read_54 : decode b_Tk_read 54 = .ok (.iload 4, 2) := by decide +kernel
theorem d_Tk_read_56 : decode b_Tk_read 56 = .ok (.aaload, 1) := by decide +kernel
theorem d_Tk_read_57 : decode b_Tk_read 57 = .ok (.getstatic 43, 3) := by decide +kernel
theorem d_Tk_read_60 : decode b_Tk_read 60 = .ok (.if_acmp .eq 20, 3) := by decide +kernel
theorem d_Tk_read_63 : decode b_Tk_read 63 = .ok (.aload_n 0, 1) := by decide +kernel
theorem d_Tk_read_64 : decode b_Tk_read 64 = .ok (.getfield 11, 3) := by decide +kernel
theorem d_Tk_read_67 : decode b_Tk_read 67 = .ok (.iload 4, 2) := by decide +kernel
theorem d_Tk_read_69 : decode b_Tk_read 69 = .ok (.aaload, 1) := by decide +kernel
theorem d_Tk_read_70 : decode b_Tk_read 70 = .ok (.getstatic 47, 3) := by decide +kernel
theorem d_Tk_read_73 : decode b_Tk_read 73 = .ok (.if_acmp .eq 7, 3) := by decide +kernel
theorem d_Tk_read_76 : decode b_Tk_read 76 = .ok (.iconst 1, 1) := by decide +kernel
theorem d_Tk_read_77 : decode b_Tk_read 77 = .ok (.goto 4, 3) := by decide +kernel
theorem d_Tk_read_80 : decode b_Tk_read 80 = .ok (.iconst 0, 1) := by decide +kernel
theorem d_Tk_read_81 : decode b_Tk_read 81 = .ok (.istore_n 3, 1) := by decide +kernel
theorem d_Tk_read_82 : decode b_Tk_read 82 = .ok (.iinc 4 1, 3) := by decide +kernel
theorem d_Tk_read_85 : decode b_Tk_read 85 = .ok (.goto (-60), 3) := by decide +kernel
theorem d_Tk_read_88 : decode b_Tk_read 88 = .ok (.return_, 1) := by decide +kernel
theorem d_Tk_readToken_0 : decode b_Tk_readToken 0 = .ok (.aload_n 0, 1) := by decide +kernel
theorem d_Tk_readToken_1 : decode b_Tk_readToken 1 = .ok (.invokevirtual 50, 3) := by decide +kernel
theorem d_Tk_readToken_4 : decode b_Tk_readToken 4 = .ok (.istore_n 2, 1) := by decide +kernel
theorem d_Tk_readToken_5 : decode b_Tk_readToken 5 = .ok (.iload_n 2, 1) := by decide +kernel
theorem d_Tk_readToken_6 : decode b_Tk_readToken 6 = .ok (.aload_n 0, 1) := by decide +kernel
theorem d_Tk_readToken_7 : decode b_Tk_readToken 7 = .ok (.getfield 29, 3) := by decide +kernel
theorem d_Tk_readToken_10 : decode b_Tk_readToken 10 = .ok (.if_icmp .ne 17, 3) := by decide +kernel
theorem d_Tk_readToken_13 : decode b_Tk_readToken 13 = .ok (.aload_n 0, 1) := by decide +kernel
theorem d_Tk_readToken_14 : decode b_Tk_readToken 14 = .ok (.getfield 17, 3) := by decide +kernel
theorem d_Tk_readToken_17 : decode b_Tk_readToken 17 = .ok (.iload_n 1, 1) := by decide +kernel
theorem d_Tk_readToken_18 : decode b_Tk_readToken 18 = .ok (.aload_n 0, 1) := by decide +kernel
theorem d_Tk_readToken_19 : decode b_Tk_readToken 19 = .ok (.getfield 33, 3) := by decide +kernel
theorem d_Tk_readToken_22 : decode b_Tk_readToken 22 = .ok (.iastore, 1) := by decide +kernel
theorem d_Tk_readToken_23 : decode b_Tk_readToken 23 = .ok (.getstatic 43, 3) := by decide +kernel
theorem d_Tk_readToken_26 : decode b_Tk_readToken 26 = .ok (.areturn, 1) := by decide +kernel
theorem d_Tk_readToken_27 : decode b_Tk_readToken 27 = .ok (.aload_n 0, 1) := by decide +kernel
theorem d_Tk_readToken_28 : decode b_Tk_readToken 28 = .ok (.getfield 17, 3) := by decide +kernel
theorem d_Tk_readToken_31 : decode b_Tk_readToken 31 = .ok (.iload_n 1, 1) := by decide +kernel
theorem d_Tk_readToken_32 : decode b_Tk_readToken 32 = .ok (.iload_n 2, 1) := by decide +kernel
theorem d_Tk_readToken_33 : decode b_Tk_readToken 33 = .ok (.iastore, 1) := by decide +kernel
theorem d_Tk_readToken_34 : decode b_Tk_readToken 34 = .ok (.iload_n 1, 1) := by decide +kernel
theorem d_Tk_readToken_35 : decode b_Tk_readToken 35 = .ok (.sipush 150, 3) := by decide +kernel
theorem d_Tk_readToken_38 : decode b_Tk_readToken 38 = .ok (.if_icmp .ne 7, 3) := by decide +kernel
theorem d_Tk_readToken_41 : decode b_Tk_readToken 41 = .ok (.getstatic 47, 3) := by decide +kernel
theorem d_Tk_readToken_44 : decode b_Tk_readToken 44 = .ok (.areturn, 1) := by decide +kernel
theorem d_Tk_readToken_45 : decode b_Tk_readToken 45 = .ok (.aload_n 0, 1) := by decide +kernel
theorem d_Tk_readToken_46 : decode b_Tk_readToken 46 = .ok (.getfield 25, 3) := by decide +kernel
theorem d_Tk_readToken_49 : decode b_Tk_readToken 49 = .ok (.iload_n 2, 1) := by decide +kernel
theorem d_Tk_readToken_50 : decode b_Tk_readToken 50 = .ok (.caload, 1) := by decide +kernel
theorem d_Tk_readToken_51 : decode b_Tk_readToken 51 = .ok (.invokestatic 54, 3) := by decide +kernel
theorem d_Tk_readToken_54 : decode b_Tk_readToken 54 = .ok (.ifCond .eq 10, 3) := by decide +kernel
theorem d_Tk_readToken_57 : decode b_Tk_readToken 57 = .ok (.aload_n 0, 1) := by decide +kernel
theorem d_Tk_readToken_58 : decode b_Tk_readToken 58 = .ok (.iload_n 1, 1) := by decide +kernel
theorem d_Tk_readToken_59 : decode b_Tk_readToken 59 = .ok (.iload_n 2, 1) := by decide +kernel
theorem d_Tk_readToken_60 : decode b_Tk_readToken 60 = .ok (.invokevirtual 58, 3) := by decide +kernel
theorem d_Tk_readToken_63 : decode b_Tk_readToken 63 = .ok (.areturn, 1) := by decide +kernel
theorem d_Tk_readToken_64 : decode b_Tk_readToken 64 = .ok (.aload_n 0, 1) := by decide +kernel
theorem d_Tk_readToken_65 : decode b_Tk_readToken 65 = .ok (.getfield 25, 3) := by decide +kernel
theorem d_Tk_readToken_68 : decode b_Tk_readToken 68 = .ok (.iload_n 2, 1) := by decide +kernel
theorem d_Tk_readToken_69 : decode b_Tk_readToken 69 = .ok (.caload, 1) := by decide +kernel
theorem d_Tk_readToken_70 : decode b_Tk_readToken 70 = .ok (.invokestatic 62, 3) := by decide +kernel
theorem d_Tk_readToken_73 : decode b_Tk_readToken 73 = .ok (.ifCond .eq 12, 3) := by decide +kernel
theorem d_Tk_readToken_76 : decode b_Tk_readToken 76 = .ok (.aload_n 0, 1) := by decide +kernel
theorem d_Tk_readToken_77 : decode b_Tk_readToken 77 = .ok (.iload_n 1, 1) := by decide +kernel
theorem d_Tk_readToken_78 : decode b_Tk_readToken 78 = .ok (.iload_n 2, 1) := by decide +kernel
theorem d_Tk_readToken_79 : decode b_Tk_readToken 79 = .ok (.invokevirtual 65, 3) := by decide +kernel
theorem d_Tk_readToken_82 : decode b_Tk_readToken 82 = .ok (.goto 8, 3) := by decide +kernel
theorem d_Tk_readToken_85 : decode b_Tk_readToken 85 = .ok (.aload_n 0, 1) := by decide +kernel
theorem d_Tk_readToken_86 : decode b_Tk_readToken 86 = .ok (.iload_n 2, 1) := by decide +kernel
theorem d_Tk_readToken_87 : decode b_Tk_readToken 87 = .ok (.invokevirtual 68, 3) := by decide +kernel
theorem d_Tk_readToken_90 : decode b_Tk_readToken 90 = .ok (.areturn, 1) := by decide +kernel
theorem d_Tk_behindBlanks_0 : decode b_Tk_behindBlanks 0 = .ok (.aload_n 0, 1) := by decide +kernel
theorem d_Tk_behindBlanks_1 : decode b_Tk_behindBlanks 1 = .ok (.getfield 33, 3) := by decide +kernel
theorem d_Tk_behindBlanks_4 : decode b_Tk_behindBlanks 4 = .ok (.istore_n 1, 1) := by decide +kernel
theorem d_Tk_behindBlanks_5 : decode b_Tk_behindBlanks 5 = .ok (.iload_n 1, 1) := by decide +kernel
theorem d_Tk_behindBlanks_6 : decode b_Tk_behindBlanks 6 = .ok (.aload_n 0, 1) := by decide +kernel
theorem d_Tk_behindBlanks_7 : decode b_Tk_behindBlanks 7 = .ok (.getfield 29, 3) := by decide +kernel
theorem d_Tk_behindBlanks_10 : decode b_Tk_behindBlanks 10 = .ok (.if_icmp .ge 20, 3) := by decide +kernel
theorem d_Tk_behindBlanks_13 : decode b_Tk_behindBlanks 13 = .ok (.aload_n 0, 1) := by decide +kernel
theorem d_Tk_behindBlanks_14 : decode b_Tk_behindBlanks 14 = .ok (.getfield 25, 3) := by decide +kernel
theorem d_Tk_behindBlanks_17 : decode b_Tk_behindBlanks 17 = .ok (.iload_n 1, 1) := by decide +kernel
theorem d_Tk_behindBlanks_18 : decode b_Tk_behindBlanks 18 = .ok (.caload, 1) := by decide +kernel
theorem d_Tk_behindBlanks_19 : decode b_Tk_behindBlanks 19 = .ok (.bipush 32, 2) := by decide +kernel
theorem d_Tk_behindBlanks_21 : decode b_Tk_behindBlanks 21 = .ok (.if_icmp .ne 9, 3) := by decide +kernel
theorem d_Tk_behindBlanks_24 : decode b_Tk_behindBlanks 24 = .ok (.iinc 1 1, 3) := by decide +kernel
theorem d_Tk_behindBlanks_27 : decode b_Tk_behindBlanks 27 = .ok (.goto (-22), 3) := by decide +kernel
theorem d_Tk_behindBlanks_30 : decode b_Tk_behindBlanks 30 = .ok (.iload_n 1, 1) := by decide +kernel
theorem d_Tk_behindBlanks_31 : decode b_Tk_behindBlanks 31 = .ok (.ireturn, 1) := by decide +kernel
theorem d_Tk_readWord_0 : decode b_Tk_readWord 0 = .ok (.lconst 0, 1) := by decide +kernel
theorem d_Tk_readWord_1 : decode b_Tk_readWord 1 = .ok (.lstore_n 3, 1) := by decide +kernel
theorem d_Tk_readWord_2 : decode b_Tk_readWord 2 = .ok (.aload_n 0, 1) := by decide +kernel
theorem d_Tk_readWord_3 : decode b_Tk_readWord 3 = .ok (.iload_n 2, 1) := by decide +kernel
theorem d_Tk_readWord_4 : decode b_Tk_readWord 4 = .ok (.putfield 33, 3) := by decide +kernel
theorem d_Tk_readWord_7 : decode b_Tk_readWord 7 = .ok (.aload_n 0, 1) := by decide +kernel
theorem d_Tk_readWord_8 : decode b_Tk_readWord 8 = .ok (.getfield 33, 3) := by decide +kernel
theorem d_Tk_readWord_11 : decode b_Tk_readWord 11 = .ok (.aload_n 0, 1) := by decide +kernel
theorem d_Tk_readWord_12 : decode b_Tk_readWord 12 = .ok (.getfield 29, 3) := by decide +kernel
theorem d_Tk_readWord_15 : decode b_Tk_readWord 15 = .ok (.if_icmp .ge 62, 3) := by decide +kernel
theorem d_Tk_readWord_18 : decode b_Tk_readWord 18 = .ok (.aload_n 0, 1) := by decide +kernel
theorem d_Tk_readWord_19 : decode b_Tk_readWord 19 = .ok (.getfield 25, 3) := by decide +kernel
theorem d_Tk_readWord_22 : decode b_Tk_readWord 22 = .ok (.aload_n 0, 1) := by decide +kernel
theorem d_Tk_readWord_23 : decode b_Tk_readWord 23 = .ok (.getfield 33, 3) := by decide +kernel
theorem d_Tk_readWord_26 : decode b_Tk_readWord 26 = .ok (.caload, 1) := by decide +kernel
theorem d_Tk_readWord_27 : decode b_Tk_readWord 27 = .ok (.invokestatic 54, 3) := by decide +kernel
theorem d_Tk_readWord_30 : decode b_Tk_readWord 30 = .ok (.ifCond .ne 18, 3) := by decide +kernel
theorem d_Tk_readWord_33 : decode b_Tk_readWord 33 = .ok (.aload_n 0, 1) := by decide +kernel
theorem d_Tk_readWord_34 : decode b_Tk_readWord 34 = .ok (.getfield 25, 3) := by decide +kernel
theorem d_Tk_readWord_37 : decode b_Tk_readWord 37 = .ok (.aload_n 0, 1) := by decide +kernel
theorem d_Tk_readWord_38 : decode b_Tk_readWord 38 = .ok (.getfield 33, 3) := by decide +kernel
theorem d_Tk_readWord_41 : decode b_Tk_readWord 41 = .ok (.caload, 1) := by decide +kernel
theorem d_Tk_readWord_42 : decode b_Tk_readWord 42 = .ok (.invokestatic 62, 3) := by decide +kernel
theorem d_Tk_readWord_45 : decode b_Tk_readWord 45 = .ok (.ifCond .eq 32, 3) := by decide +kernel
theorem d_Tk_readWord_48 : decode b_Tk_readWord 48 = .ok (.lload_n 3, 1) := by decide +kernel
theorem d_Tk_readWord_49 : decode b_Tk_readWord 49 = .ok (.bipush 8, 2) := by decide +kernel
theorem d_Tk_readWord_51 : decode b_Tk_readWord 51 = .ok (.lshl, 1) := by decide +kernel
theorem d_Tk_readWord_52 : decode b_Tk_readWord 52 = .ok (.aload_n 0, 1) := by decide +kernel
theorem d_Tk_readWord_53 : decode b_Tk_readWord 53 = .ok (.getfield 25, 3) := by decide +kernel
theorem d_Tk_readWord_56 : decode b_Tk_readWord 56 = .ok (.aload_n 0, 1) := by decide +kernel
theorem d_Tk_readWord_57 : decode b_Tk_readWord 57 = .ok (.getfield 33, 3) := by decide +kernel
theorem d_Tk_readWord_60 : decode b_Tk_readWord 60 = .ok (.caload, 1) := by decide +kernel
theorem d_Tk_readWord_61 : decode b_Tk_readWord 61 = .ok (.i2l, 1) := by decide +kernel
theorem d_Tk_readWord_62 : decode b_Tk_readWord 62 = .ok (.lor, 1) := by decide +kernel
theorem d_Tk_readWord_63 : decode b_Tk_readWord 63 = .ok (.lstore_n 3, 1) := by decide +kernel
theorem d_Tk_readWord_64 : decode b_Tk_readWord 64 = .ok (.aload_n 0, 1) := by decide +kernel
theorem d_Tk_readWord_65 : decode b_Tk_readWord 65 = .ok (.dup, 1) := by decide +kernel
theorem d_Tk_readWord_66 : decode b_Tk_readWord 66 = .ok (.getfield 33, 3) := by decide +kernel
theorem d_Tk_readWord_69 : decode b_Tk_readWord 69 = .ok (.iconst 1, 1) := by decide +kernel
theorem d_Tk_readWord_70 : decode b_Tk_readWord 70 = .ok (.iadd, 1) := by decide +kernel
theorem d_Tk_readWord_71 : decode b_Tk_readWord 71 = .ok (.putfield 33, 3) := by decide +kernel
theorem d_Tk_readWord_74 : decode b_Tk_readWord 74 = .ok (.goto (-67), 3) := by decide +kernel
theorem d_Tk_readWord_77 : decode b_Tk_readWord 77 = .ok (.aload_n 0, 1) := by decide +kernel
theorem d_Tk_readWord_78 : decode b_Tk_readWord 78 = .ok (.getfield 21, 3) := by decide +kernel
theorem d_Tk_readWord_81 : decode b_Tk_readWord 81 = .ok (.iload_n 1, 1) := by decide +kernel
theorem d_Tk_readWord_82 : decode b_Tk_readWord 82 = .ok (.lload_n 3, 1) := by decide +kernel
theorem d_Tk_readWord_83 : decode b_Tk_readWord 83 = .ok (.lastore, 1) := by decide +kernel
theorem d_Tk_readWord_84 : decode b_Tk_readWord 84 = .ok (.aload_n 0, 1) := by decide +kernel
theorem d_Tk_readWord_85 : decode b_Tk_readWord 85 = .ok (.getfield 33, 3) := by decide +kernel
theorem d_Tk_readWord_88 : decode b_Tk_readWord 88 = .ok (.iload_n 2, 1) := by decide +kernel
theorem d_Tk_readWord_89 : decode b_Tk_readWord 89 = .ok (.isub, 1) := by decide +kernel
theorem d_Tk_readWord_90 : decode b_Tk_readWord 90 = .ok (.bipush 6, 2) := by decide +kernel
theorem d_Tk_readWord_92 : decode b_Tk_readWord 92 = .ok (.if_icmp .le 9, 3) := by decide +kernel
theorem d_Tk_readWord_95 : decode b_Tk_readWord 95 = .ok (.getstatic 47, 3) := by decide +kernel
theorem d_Tk_readWord_98 : decode b_Tk_readWord 98 = .ok (.goto 11, 3) := by decide +kernel
theorem d_Tk_readWord_101 : decode b_Tk_readWord 101 = .ok (.aload_n 0, 1) := by decide +kernel
theorem d_Tk_readWord_102 : decode b_Tk_readWord 102 = .ok (.iload_n 2, 1) := by decide +kernel
theorem d_Tk_readWord_103 : decode b_Tk_readWord 103 = .ok (.getstatic 71, 3) := by decide +kernel
theorem d_Tk_readWord_106 : decode b_Tk_readWord 106 = .ok (.invokevirtual 74, 3) := by decide +kernel
theorem d_Tk_readWord_109 : decode b_Tk_readWord 109 = .ok (.areturn, 1) := by decide +kernel
theorem d_Tk_readNumber_0 : decode b_Tk_readNumber 0 = .ok (.lconst 0, 1) := by decide +kernel
theorem d_Tk_readNumber_1 : decode b_Tk_readNumber 1 = .ok (.lstore_n 3, 1) := by decide +kernel
theorem d_Tk_readNumber_2 : decode b_Tk_readNumber 2 = .ok (.aload_n 0, 1) := by decide +kernel
theorem d_Tk_readNumber_3 : decode b_Tk_readNumber 3 = .ok (.iload_n 2, 1) := by decide +kernel
theorem d_Tk_readNumber_4 : decode b_Tk_readNumber 4 = .ok (.putfield 33, 3) := by decide +kernel
theorem d_Tk_readNumber_7 : decode b_Tk_readNumber 7 = .ok (.aload_n 0, 1) := by decide +kernel
theorem d_Tk_readNumber_8 : decode b_Tk_readNumber 8 = .ok (.getfield 33, 3) := by decide +kernel
theorem d_Tk_readNumber_11 : decode b_Tk_readNumber 11 = .ok (.aload_n 0, 1) := by decide +kernel
theorem d_Tk_readNumber_12 : decode b_Tk_readNumber 12 = .ok (.getfield 29, 3) := by decide +kernel
theorem d_Tk_readNumber_15 : decode b_Tk_readNumber 15 = .ok (.if_icmp .ge 51, 3) := by decide +kernel
theorem d_Tk_readNumber_18 : decode b_Tk_readNumber 18 = .ok (.aload_n 0, 1) := by decide +kernel
theorem d_Tk_readNumber_19 : decode b_Tk_readNumber 19 = .ok (.getfield 25, 3) := by decide +kernel
theorem d_Tk_readNumber_22 : decode b_Tk_readNumber 22 = .ok (.aload_n 0, 1) := by decide +kernel
theorem d_Tk_readNumber_23 : decode b_Tk_readNumber 23 = .ok (.getfield 33, 3) := by decide +kernel
theorem d_Tk_readNumber_26 : decode b_Tk_readNumber 26 = .ok (.caload, 1) := by decide +kernel
theorem d_Tk_readNumber_27 : decode b_Tk_readNumber 27 = .ok (.invokestatic 62, 3) := by decide +kernel
theorem d_Tk_readNumber_30 : decode b_Tk_readNumber 30 = .ok (.ifCond .eq 36, 3) := by decide +kernel
theorem d_Tk_readNumber_33 : decode b_Tk_readNumber 33 = .ok (.lload_n 3, 1) := by decide +kernel
theorem d_Tk_readNumber_34 : decode b_Tk_readNumber 34 = .ok (.ldc2_w 78, 3) := by decide +kernel
theorem d_Tk_readNumber_37 : decode b_Tk_readNumber 37 = .ok (.lmul, 1) := by decide +kernel
theorem d_Tk_readNumber_38 : decode b_Tk_readNumber 38 = .ok (.aload_n 0, 1) := by decide +kernel
theorem d_Tk_readNumber_39 : decode b_Tk_readNumber 39 = .ok (.getfield 25, 3) := by decide +kernel
theorem d_Tk_readNumber_42 : decode b_Tk_readNumber 42 = .ok (.aload_n 0, 1) := by decide +kernel
theorem d_Tk_readNumber_43 : decode b_Tk_readNumber 43 = .ok (.getfield 33, 3) := by decide +kernel
theorem d_Tk_readNumber_46 : decode b_Tk_readNumber 46 = .ok (.caload, 1) := by decide +kernel
theorem d_Tk_readNumber_47 : decode b_Tk_readNumber 47 = .ok (.bipush 48, 2) := by decide +kernel
theorem d_Tk_readNumber_49 : decode b_Tk_readNumber 49 = .ok (.isub, 1) := by decide +kernel
theorem d_Tk_readNumber_50 : decode b_Tk_readNumber 50 = .ok (.i2l, 1) := by decide +kernel
theorem d_Tk_readNumber_51 : decode b_Tk_readNumber 51 = .ok (.ladd, 1) := by decide +kernel
theorem d_Tk_readNumber_52 : decode b_Tk_readNumber 52 = .ok (.lstore_n 3, 1) := by decide +kernel
theorem d_Tk_readNumber_53 : decode b_Tk_readNumber 53 = .ok (.aload_n 0, 1) := by decide +kernel
theorem d_Tk_readNumber_54 : decode b_Tk_readNumber 54 = .ok (.dup, 1) := by decide +kernel
theorem d_Tk_readNumber_55 : decode b_Tk_readNumber 55 = .ok (.getfield 33, 3) := by decide +kernel
theorem d_Tk_readNumber_58 : decode b_Tk_readNumber 58 = .ok (.iconst 1, 1) := by decide +kernel
theorem d_Tk_readNumber_59 : decode b_Tk_readNumber 59 = .ok (.iadd, 1) := by decide +kernel
theorem d_Tk_readNumber_60 : decode b_Tk_readNumber 60 = .ok (.putfield 33, 3) := by decide +kernel
theorem d_Tk_readNumber_63 : decode b_Tk_readNumber 63 = .ok (.goto (-56), 3) := by decide +kernel
theorem d_Tk_readNumber_66 : decode b_Tk_readNumber 66 = .ok (.aload_n 0, 1) := by decide +kernel
theorem d_Tk_readNumber_67 : decode b_Tk_readNumber 67 = .ok (.getfield 21, 3) := by decide +kernel
theorem d_Tk_readNumber_70 : decode b_Tk_readNumber 70 = .ok (.iload_n 1, 1) := by decide +kernel
theorem d_Tk_readNumber_71 : decode b_Tk_readNumber 71 = .ok (.lload_n 3, 1) := by decide +kernel
theorem d_Tk_readNumber_72 : decode b_Tk_readNumber 72 = .ok (.lastore, 1) := by decide +kernel
theorem d_Tk_readNumber_73 : decode b_Tk_readNumber 73 = .ok (.aload_n 0, 1) := by decide +kernel
theorem d_Tk_readNumber_74 : decode b_Tk_readNumber 74 = .ok (.getfield 33, 3) := by decide +kernel
theorem d_Tk_readNumber_77 : decode b_Tk_readNumber 77 = .ok (.iload_n 2, 1) := by decide +kernel
theorem d_Tk_readNumber_78 : decode b_Tk_readNumber 78 = .ok (.isub, 1) := by decide +kernel
theorem d_Tk_readNumber_79 : decode b_Tk_readNumber 79 = .ok (.bipush 9, 2) := by decide +kernel
theorem d_Tk_readNumber_81 : decode b_Tk_readNumber 81 = .ok (.if_icmp .le 9, 3) := by decide +kernel
theorem d_Tk_readNumber_84 : decode b_Tk_readNumber 84 = .ok (.getstatic 47, 3) := by decide +kernel
theorem d_Tk_readNumber_87 : decode b_Tk_readNumber 87 = .ok (.goto 6, 3) := by decide +kernel
theorem d_Tk_readNumber_90 : decode b_Tk_readNumber 90 = .ok (.getstatic 80, 3) := by decide +kernel
theorem d_Tk_readNumber_93 : decode b_Tk_readNumber 93 = .ok (.areturn, 1) := by decide +kernel
theorem d_Tk_readSign_0 : decode b_Tk_readSign 0 = .ok (.aload_n 0, 1) := by decide +kernel
theorem d_Tk_readSign_1 : decode b_Tk_readSign 1 = .ok (.aload_n 0, 1) := by decide +kernel
theorem d_Tk_readSign_2 : decode b_Tk_readSign 2 = .ok (.getfield 29, 3) := by decide +kernel
theorem d_Tk_readSign_5 : decode b_Tk_readSign 5 = .ok (.iload_n 1, 1) := by decide +kernel
theorem d_Tk_readSign_6 : decode b_Tk_readSign 6 = .ok (.aload_n 0, 1) := by decide +kernel
theorem d_Tk_readSign_7 : decode b_Tk_readSign 7 = .ok (.getfield 25, 3) := by decide +kernel
theorem d_Tk_readSign_10 : decode b_Tk_readSign 10 = .ok (.iload_n 1, 1) := by decide +kernel
theorem d_Tk_readSign_11 : decode b_Tk_readSign 11 = .ok (.caload, 1) := by decide +kernel
theorem d_Tk_readSign_12 : decode b_Tk_readSign 12 = .ok (.bipush 58, 2) := by decide +kernel
theorem d_Tk_readSign_14 : decode b_Tk_readSign 14 = .ok (.if_icmp .ne 7, 3) := by decide +kernel
theorem d_Tk_readSign_17 : decode b_Tk_readSign 17 = .ok (.iconst 2, 1) := by decide +kernel
theorem d_Tk_readSign_18 : decode b_Tk_readSign 18 = .ok (.goto 4, 3) := by decide +kernel
theorem d_Tk_readSign_21 : decode b_Tk_readSign 21 = .ok (.iconst 1, 1) := by decide +kernel
theorem d_Tk_readSign_22 : decode b_Tk_readSign 22 = .ok (.iadd, 1) := by decide +kernel
theorem d_Tk_readSign_23 : decode b_Tk_readSign 23 = .ok (.invokestatic 83, 3) := by decide +kernel
theorem d_Tk_readSign_26 : decode b_Tk_readSign 26 = .ok (.putfield 33, 3) := by decide +kernel
theorem d_Tk_readSign_29 : decode b_Tk_readSign 29 = .ok (.aload_n 0, 1) := by decide +kernel
theorem d_Tk_readSign_30 : decode b_Tk_readSign 30 = .ok (.iload_n 1, 1) := by decide +kernel
theorem d_Tk_readSign_31 : decode b_Tk_readSign 31 = .ok (.getstatic 47, 3) := by decide +kernel
theorem d_Tk_readSign_34 : decode b_Tk_readSign 34 = .ok (.invokevirtual 74, 3) := by decide +kernel
theorem d_Tk_readSign_37 : decode b_Tk_readSign 37 = .ok (.areturn, 1) := by decide +kernel
theorem d_Tk_kindSpelled_0 : decode b_Tk_kindSpelled 0 = .ok (.iconst 0, 1) := by decide +kernel
theorem d_Tk_kindSpelled_1 : decode b_Tk_kindSpelled 1 = .ok (.istore_n 3, 1) := by decide +kernel
theorem d_Tk_kindSpelled_2 : decode b_Tk_kindSpelled 2 = .ok (.iload_n 3, 1) := by decide +kernel
theorem d_Tk_kindSpelled_3 : decode b_Tk_kindSpelled 3 = .ok (.getstatic 89, 3) := by decide +kernel
theorem d_Tk_kindSpelled_6 : decode b_Tk_kindSpelled 6 = .ok (.arraylength, 1) := by decide +kernel
theorem d_Tk_kindSpelled_7 : decode b_Tk_kindSpelled 7 = .ok (.if_icmp .ge 31, 3) := by decide +kernel
theorem d_Tk_kindSpelled_10 : decode b_Tk_kindSpelled 10 = .ok (.aload_n 0, 1) := by decide +kernel
theorem d_Tk_kindSpelled_11 : decode b_Tk_kindSpelled 11 = .ok (.iload_n 1, 1) := by decide +kernel
theorem d_Tk_kindSpelled_12 : decode b_Tk_kindSpelled 12 = .ok (.getstatic 89, 3) := by decide +kernel
theorem d_Tk_kindSpelled_15 : decode b_Tk_kindSpelled 15 = .ok (.iload_n 3, 1) := by decide +kernel
theorem d_Tk_kindSpelled_16 : decode b_Tk_kindSpelled 16 = .ok (.aaload, 1) := by decide +kernel
theorem d_Tk_kindSpelled_17 : decode b_Tk_kindSpelled 17 = .ok (.getfield 92, 3) := by decide +kernel
theorem d_Tk_kindSpelled_20 : decode b_Tk_kindSpelled 20 = .ok (.invokevirtual 96, 3) := by decide +kernel
theorem d_Tk_kindSpelled_23 : decode b_Tk_kindSpelled 23 = .ok (.ifCond .eq 9, 3) := by decide +kernel
theorem d_Tk_kindSpelled_26 : decode b_Tk_kindSpelled 26 = .ok (.getstatic 89, 3) := by decide +kernel
theorem d_Tk_kindSpelled_29 : decode b_Tk_kindSpelled 29 = .ok (.iload_n 3, 1) := by decide +kernel
theorem d_Tk_kindSpelled_30 : decode b_Tk_kindSpelled 30 = .ok (.aaload, 1) := by decide +kernel
theorem d_Tk_kindSpelled_31 : decode b_Tk_kindSpelled 31 = .ok (.areturn, 1) := by decide +kernel
theorem d_Tk_kindSpelled_32 : decode b_Tk_kindSpelled 32 = .ok (.iinc 3 1, 3) := by decide +kernel
theorem d_Tk_kindSpelled_35 : decode b_Tk_kindSpelled 35 = .ok (.goto (-33), 3) := by decide +kernel
theorem d_Tk_kindSpelled_38 : decode b_Tk_kindSpelled 38 = .ok (.aload_n 2, 1) := by decide +kernel
theorem d_Tk_kindSpelled_39 : decode b_Tk_kindSpelled 39 = .ok (.areturn, 1) := by decide +kernel
theorem d_Tk_isSpelled_0 : decode b_Tk_isSpelled 0 = .ok (.aload_n 2, 1) := by decide +kernel
theorem d_Tk_isSpelled_1 : decode b_Tk_isSpelled 1 = .ok (.invokevirtual 100, 3) := by decide +kernel
theorem d_Tk_isSpelled_4 : decode b_Tk_isSpelled 4 = .ok (.aload_n 0, 1) := by decide +kernel
theorem d_Tk_isSpelled_5 : decode b_Tk_isSpelled 5 = .ok (.getfield 33, 3) := by decide +kernel
theorem d_Tk_isSpelled_8 : decode b_Tk_isSpelled 8 = .ok (.iload_n 1, 1) := by decide +kernel
theorem d_Tk_isSpelled_9 : decode b_Tk_isSpelled 9 = .ok (.isub, 1) := by decide +kernel
theorem d_Tk_isSpelled_10 : decode b_Tk_isSpelled 10 = .ok (.if_icmp .eq 5, 3) := by decide +kernel
theorem d_Tk_isSpelled_13 : decode b_Tk_isSpelled 13 = .ok (.iconst 0, 1) := by decide +kernel
theorem d_Tk_isSpelled_14 : decode b_Tk_isSpelled 14 = .ok (.ireturn, 1) := by decide +kernel
theorem d_Tk_isSpelled_15 : decode b_Tk_isSpelled 15 = .ok (.iconst 0, 1) := by decide +kernel
theorem d_Tk_isSpelled_16 : decode b_Tk_isSpelled 16 = .ok (.istore_n 3, 1) := by decide +kernel
theorem d_Tk_isSpelled_17 : decode b_Tk_isSpelled 17 = .ok (.iload_n 3, 1) := by decide +kernel
theorem d_Tk_isSpelled_18 : decode b_Tk_isSpelled 18 = .ok (.aload_n 2, 1) := by decide +kernel
theorem d_Tk_isSpelled_19 : decode b_Tk_isSpelled 19 = .ok (.invokevirtual 100, 3) := by decide +kernel
theorem d_Tk_isSpelled_22 : decode b_Tk_isSpelled 22 = .ok (.if_icmp .ge 27, 3) := by decide +kernel
theorem d_Tk_isSpelled_25 : decode b_Tk_isSpelled 25 = .ok (.aload_n 2, 1) := by decide +kernel
theorem d_Tk_isSpelled_26 : decode b_Tk_isSpelled 26 = .ok (.iload_n 3, 1) := by decide +kernel
theorem d_Tk_isSpelled_27 : decode b_Tk_isSpelled 27 = .ok (.invokevirtual 104, 3) := by decide +kernel
theorem d_Tk_isSpelled_30 : decode b_Tk_isSpelled 30 = .ok (.aload_n 0, 1) := by decide +kernel
theorem d_Tk_isSpelled_31 : decode b_Tk_isSpelled 31 = .ok (.getfield 25, 3) := by decide +kernel
theorem d_Tk_isSpelled_34 : decode b_Tk_isSpelled 34 = .ok (.iload_n 1, 1) := by decide +kernel
theorem d_Tk_isSpelled_35 : decode b_Tk_isSpelled 35 = .ok (.iload_n 3, 1) := by decide +kernel
theorem d_Tk_isSpelled_36 : decode b_Tk_isSpelled 36 = .ok (.iadd, 1) := by decide +kernel
theorem d_Tk_isSpelled_37 : decode b_Tk_isSpelled 37 = .ok (.caload, 1) := by decide +kernel
theorem d_Tk_isSpelled_38 : decode b_Tk_isSpelled 38 = .ok (.if_icmp .eq 5, 3) := by decide +kernel
theorem d_Tk_isSpelled_41 : decode b_Tk_isSpelled 41 = .ok (.iconst 0, 1) := by decide +kernel
theorem d_Tk_isSpelled_42 : decode b_Tk_isSpelled 42 = .ok (.ireturn, 1) := by decide +kernel
theorem d_Tk_isSpelled_43 : decode b_Tk_isSpelled 43 = .ok (.iinc 3 1, 3) := by decide +kernel
theorem d_Tk_isSpelled_46 : decode b_Tk_isSpelled 46 = .ok (.goto (-29), 3) := by decide +kernel
theorem d_Tk_isSpelled_49 : decode b_Tk_isSpelled 49 = .ok (.iconst 1, 1) := by decide +kernel
theorem d_Tk_isSpelled_50 : decode b_Tk_isSpelled 50 = .ok (.ireturn, 1) := by decide +kernel
theorem d_Tk_isLetter_0 : decode b_Tk_isLetter 0 = .ok (.iload_n 0, 1) := by decide +kernel
theorem d_Tk_isLetter_1 : decode b_Tk_isLetter 1 = .ok (.bipush 97, 2) := by decide +kernel
theorem d_Tk_isLetter_3 : decode b_Tk_isLetter 3 = .ok (.if_icmp .lt 13, 3) := by decide +kernel
theorem d_Tk_isLetter_6 : decode b_Tk_isLetter 6 = .ok (.iload_n 0, 1) := by decide +kernel
theorem d_Tk_isLetter_7 : decode b_Tk_isLetter 7 = .ok (.bipush 122, 2) := by decide +kernel
theorem d_Tk_isLetter_9 : decode b_Tk_isLetter 9 = .ok (.if_icmp .gt 7, 3) := by decide +kernel
theorem d_Tk_isLetter_12 : decode b_Tk_isLetter 12 = .ok (.iconst 1, 1) := by decide +kernel
theorem d_Tk_isLetter_13 : decode b_Tk_isLetter 13 = .ok (.goto 4, 3) := by decide +kernel
theorem d_Tk_isLetter_16 : decode b_Tk_isLetter 16 = .ok (.iconst 0, 1) := by decide +kernel
theorem d_Tk_isLetter_17 : decode b_Tk_isLetter 17 = .ok (.ireturn, 1) := by decide +kernel
theorem d_Tk_isDigit_0 : decode b_Tk_isDigit 0 = .ok (.iload_n 0, 1) := by decide +kernel
theorem d_Tk_isDigit_1 : decode b_Tk_isDigit 1 = .ok (.bipush 48, 2) := by decide +kernel
theorem d_Tk_isDigit_3 : decode b_Tk_isDigit 3 = .ok (.if_icmp .lt 13, 3) := by decide +kernel
theorem d_Tk_isDigit_6 : decode b_Tk_isDigit 6 = .ok (.iload_n 0, 1) := by decide +kernel
theorem d_Tk_isDigit_7 : decode b_Tk_isDigit 7 = .ok (.bipush 57, 2) := by decide +kernel
theorem d_Tk_isDigit_9 : decode b_Tk_isDigit 9 = .ok (.if_icmp .gt 7, 3) := by decide +kernel
theorem d_Tk_isDigit_12 : decode b_Tk_isDigit 12 = .ok (.iconst 1, 1) := by decide +kernel
theorem d_Tk_isDigit_13 : decode b_Tk_isDigit 13 = .ok (.goto 4, 3) := by decide +kernel
theorem d_Tk_isDigit_16 : decode b_Tk_isDigit 16 = .ok (.iconst 0, 1) := by decide +kernel
theorem d_Tk_isDigit_17 : decode b_Tk_isDigit 17 = .ok (.ireturn, 1) := by decide +kernel
theorem d_Tk_kind_0 : decode b_Tk_kind 0 = .ok (.aload_n 0, 1) := by decide +kernel
theorem d_Tk_kind_1 : decode b_Tk_kind 1 = .ok (.getfield 11, 3) := by decide +kernel
theorem d_Tk_kind_4 : decode b_Tk_kind 4 = .ok (.aload_n 0, 1) := by decide +kernel
theorem d_Tk_kind_5 : decode b_Tk_kind 5 = .ok (.getfield 36, 3) := by decide +kernel
theorem d_Tk_kind_8 : decode b_Tk_kind 8 = .ok (.aaload, 1) := by decide +kernel
theorem d_Tk_kind_9 : decode b_Tk_kind 9 = .ok (.areturn, 1) := by decide +kernel
theorem d_Tk_place_0 : decode b_Tk_place 0 = .ok (.aload_n 0, 1) := by decide +kernel
theorem d_Tk_place_1 : decode b_Tk_place 1 = .ok (.getfield 17, 3) := by decide +kernel
theorem d_Tk_place_4 : decode b_Tk_place 4 = .ok (.aload_n 0, 1) := by decide +kernel
theorem d_Tk_place_5 : decode b_Tk_place 5 = .ok (.getfield 36, 3) := by decide +kernel
theorem d_Tk_place_8 : decode b_Tk_place 8 = .ok (.iaload, 1) := by decide +kernel
theorem d_Tk_place_9 : decode b_Tk_place 9 = .ok (.ireturn, 1) := by decide +kernel
theorem d_Tk_content_0 : decode b_Tk_content 0 = .ok (.aload_n 0, 1) := by decide +kernel
theorem d_Tk_content_1 : decode b_Tk_content 1 = .ok (.getfield 21, 3) := by decide +kernel
theorem d_Tk_content_4 : decode b_Tk_content 4 = .ok (.aload_n 0, 1) := by decide +kernel
theorem d_Tk_content_5 : decode b_Tk_content 5 = .ok (.getfield 36, 3) := by decide +kernel
theorem d_Tk_content_8 : decode b_Tk_content 8 = .ok (.laload, 1) := by decide +kernel
theorem d_Tk_content_9 : decode b_Tk_content 9 = .ok (.lreturn, 1) := by decide +kernel
theorem d_Tk_isBefore_0 : decode b_Tk_isBefore 0 = .ok (.aload_n 0, 1) := by decide +kernel
theorem d_Tk_isBefore_1 : decode b_Tk_isBefore 1 = .ok (.getfield 36, 3) := by decide +kernel
theorem d_Tk_isBefore_4 : decode b_Tk_isBefore 4 = .ok (.sipush 150, 3) := by decide +kernel
theorem d_Tk_isBefore_7 : decode b_Tk_isBefore 7 = .ok (.if_icmp .ge 22, 3) := by decide +kernel
theorem d_Tk_isBefore_10 : decode b_Tk_isBefore 10 = .ok (.aload_n 0, 1) := by decide +kernel
theorem d_Tk_isBefore_11 : decode b_Tk_isBefore 11 = .ok (.getfield 11, 3) := by decide +kernel
theorem d_Tk_isBefore_14 : decode b_Tk_isBefore 14 = .ok (.aload_n 0, 1) := by decide +kernel
theorem d_Tk_isBefore_15 : decode b_Tk_isBefore 15 = .ok (.getfield 36, 3) := by decide +kernel
theorem d_Tk_isBefore_18 : decode b_Tk_isBefore 18 = .ok (.iconst 1, 1) := by decide +kernel
theorem d_Tk_isBefore_19 : decode b_Tk_isBefore 19 = .ok (.iadd, 1) := by decide +kernel
theorem d_Tk_isBefore_20 : decode b_Tk_isBefore 20 = .ok (.aaload, 1) := by decide +kernel
theorem d_Tk_isBefore_21 : decode b_Tk_isBefore 21 = .ok (.aload_n 1, 1) := by decide +kernel
theorem d_Tk_isBefore_22 : decode b_Tk_isBefore 22 = .ok (.if_acmp .ne 7, 3) := by decide +kernel
theorem d_Tk_isBefore_25 : decode b_Tk_isBefore 25 = .ok (.iconst 1, 1) := by decide +kernel
theorem d_Tk_isBefore_26 : decode b_Tk_isBefore 26 = .ok (.goto 4, 3) := by decide +kernel
theorem d_Tk_isBefore_29 : decode b_Tk_isBefore 29 = .ok (.iconst 0, 1) := by decide +kernel
theorem d_Tk_isBefore_30 : decode b_Tk_isBefore 30 = .ok (.ireturn, 1) := by decide +kernel
theorem d_Tk_advance_0 : decode b_Tk_advance 0 = .ok (.aload_n 0, 1) := by decide +kernel
theorem d_Tk_advance_1 : decode b_Tk_advance 1 = .ok (.getfield 36, 3) := by decide +kernel
theorem d_Tk_advance_4 : decode b_Tk_advance 4 = .ok (.sipush 150, 3) := by decide +kernel
theorem d_Tk_advance_7 : decode b_Tk_advance 7 = .ok (.if_icmp .ge 13, 3) := by decide +kernel
theorem d_Tk_advance_10 : decode b_Tk_advance 10 = .ok (.aload_n 0, 1) := by decide +kernel
theorem d_Tk_advance_11 : decode b_Tk_advance 11 = .ok (.dup, 1) := by decide +kernel
theorem d_Tk_advance_12 : decode b_Tk_advance 12 = .ok (.getfield 36, 3) := by decide +kernel
theorem d_Tk_advance_15 : decode b_Tk_advance 15 = .ok (.iconst 1, 1) := by decide +kernel
theorem d_Tk_advance_16 : decode b_Tk_advance 16 = .ok (.iadd, 1) := by decide +kernel
theorem d_Tk_advance_17 : decode b_Tk_advance 17 = .ok (.putfield 36, 3) := by decide +kernel
theorem d_Tk_advance_20 : decode b_Tk_advance 20 = .ok (.return_, 1) := by decide +kernel
theorem d_Tk_accept_0 : decode b_Tk_accept 0 = .ok (.aload_n 0, 1) := by decide +kernel
theorem d_Tk_accept_1 : decode b_Tk_accept 1 = .ok (.getfield 11, 3) := by decide +kernel
theorem d_Tk_accept_4 : decode b_Tk_accept 4 = .ok (.aload_n 0, 1) := by decide +kernel
theorem d_Tk_accept_5 : decode b_Tk_accept 5 = .ok (.getfield 36, 3) := by decide +kernel
theorem d_Tk_accept_8 : decode b_Tk_accept 8 = .ok (.aaload, 1) := by decide +kernel
theorem d_Tk_accept_9 : decode b_Tk_accept 9 = .ok (.aload_n 1, 1) := by decide +kernel
theorem d_Tk_accept_10 : decode b_Tk_accept 10 = .ok (.if_acmp .eq 5, 3) := by decide +kernel
theorem d_Tk_accept_13 : decode b_Tk_accept 13 = .ok (.iconst 0, 1) := by decide +kernel
theorem d_Tk_accept_14 : decode b_Tk_accept 14 = .ok (.ireturn, 1) := by decide +kernel
theorem d_Tk_accept_15 : decode b_Tk_accept 15 = .ok (.aload_n 0, 1) := by decide +kernel
theorem d_Tk_accept_16 : decode b_Tk_accept 16 = .ok (.invokevirtual 108, 3) := by decide +kernel
theorem d_Tk_accept_19 : decode b_Tk_accept 19 = .ok (.iconst 1, 1) := by decide +kernel
theorem d_Tk_accept_20 : decode b_Tk_accept 20 = .ok (.ireturn, 1) := by decide +kernel
end
section
-- ===== PART A: goes FIRST, ahead of the names: the tables' words, and 'selects' of the private methods out of them =====
/-- a private method of a class that the tables say can be made, by its rows of tables_1 -/
def lw_okq (q : MethodName × Nat) : Prop := (q.1.cls ≠ "java/lang/invoke/MethodHandle" ∧ q.1.cls ≠ "java/lang/invoke/VarHandle") ∧ Cond.instantiable q.1.cls q.2 ∈ tables_1 ∧ Cond.privateMethod q.1 ∈ tables_1 ∧ Cond.instanceMethod q.1 ∈ tables_1
theorem lw_p0 : lw_okq (⟨"java/lang/Throwable", "fillInStackTrace", "(I)Ljava/lang/Throwable;"⟩, 6) := ⟨⟨by decide +kernel, by decide +kernel⟩, List.mem_of_getElem? (i := 293) (by decide +kernel), List.mem_of_getElem? (i := 291) (by decide +kernel), List.mem_of_getElem? (i := 292) (by decide +kernel)⟩
theorem lw_p1 : lw_okq (⟨"PascalMachine$Tokens", "readToken", "(I)LPascalMachine$Kind;"⟩, 7) := ⟨⟨by decide +kernel, by decide +kernel⟩, List.mem_of_getElem? (i := 39) (by decide +kernel), List.mem_of_getElem? (i := 355) (by decide +kernel), List.mem_of_getElem? (i := 356) (by decide +kernel)⟩
theorem lw_p2 : lw_okq (⟨"PascalMachine$Tokens", "behindBlanks", "()I"⟩, 7) := ⟨⟨by decide +kernel, by decide +kernel⟩, List.mem_of_getElem? (i := 39) (by decide +kernel), List.mem_of_getElem? (i := 359) (by decide +kernel), List.mem_of_getElem? (i := 360) (by decide +kernel)⟩
theorem lw_p3 : lw_okq (⟨"PascalMachine$Tokens", "readWord", "(II)LPascalMachine$Kind;"⟩, 7) := ⟨⟨by decide +kernel, by decide +kernel⟩, List.mem_of_getElem? (i := 39) (by decide +kernel), List.mem_of_getElem? (i := 370) (by decide +kernel), List.mem_of_getElem? (i := 371) (by decide +kernel)⟩
theorem lw_p4 : lw_okq (⟨"PascalMachine$Tokens", "kindSpelled", "(ILPascalMachine$Kind;)LPascalMachine$Kind;"⟩, 7) := ⟨⟨by decide +kernel, by decide +kernel⟩, List.mem_of_getElem? (i := 39) (by decide +kernel), List.mem_of_getElem? (i := 379) (by decide +kernel), List.mem_of_getElem? (i := 380) (by decide +kernel)⟩
theorem lw_p5 : lw_okq (⟨"PascalMachine$Tokens", "isSpelled", "(ILjava/lang/String;)Z"⟩, 7) := ⟨⟨by decide +kernel, by decide +kernel⟩, List.mem_of_getElem? (i := 39) (by decide +kernel), List.mem_of_getElem? (i := 385) (by decide +kernel), List.mem_of_getElem? (i := 386) (by decide +kernel)⟩
theorem lw_p6 : lw_okq (⟨"PascalMachine$Tokens", "readNumber", "(II)LPascalMachine$Kind;"⟩, 7) := ⟨⟨by decide +kernel, by decide +kernel⟩, List.mem_of_getElem? (i := 39) (by decide +kernel), List.mem_of_getElem? (i := 437) (by decide +kernel), List.mem_of_getElem? (i := 438) (by decide +kernel)⟩
theorem lw_p7 : lw_okq (⟨"PascalMachine$Tokens", "readSign", "(I)LPascalMachine$Kind;"⟩, 7) := ⟨⟨by decide +kernel, by decide +kernel⟩, List.mem_of_getElem? (i := 39) (by decide +kernel), List.mem_of_getElem? (i := 444) (by decide +kernel), List.mem_of_getElem? (i := 445) (by decide +kernel)⟩
theorem lw_p8 : lw_okq (⟨"PascalMachine$Compiler", "block", "(I)I"⟩, 4) := ⟨⟨by decide +kernel, by decide +kernel⟩, List.mem_of_getElem? (i := 33) (by decide +kernel), List.mem_of_getElem? (i := 455) (by decide +kernel), List.mem_of_getElem? (i := 456) (by decide +kernel)⟩
theorem lw_p9 : lw_okq (⟨"PascalMachine$Compiler", "variables", "()V"⟩, 4) := ⟨⟨by decide +kernel, by decide +kernel⟩, List.mem_of_getElem? (i := 33) (by decide +kernel), List.mem_of_getElem? (i := 469) (by decide +kernel), List.mem_of_getElem? (i := 470) (by decide +kernel)⟩
theorem lw_p10 : lw_okq (⟨"PascalMachine$Compiler", "declareName", "(I)V"⟩, 4) := ⟨⟨by decide +kernel, by decide +kernel⟩, List.mem_of_getElem? (i := 33) (by decide +kernel), List.mem_of_getElem? (i := 473) (by decide +kernel), List.mem_of_getElem? (i := 474) (by decide +kernel)⟩
theorem lw_p11 : lw_okq (⟨"PascalMachine$Names", "isFull", "(I)Z"⟩, 9) := ⟨⟨by decide +kernel, by decide +kernel⟩, List.mem_of_getElem? (i := 72) (by decide +kernel), List.mem_of_getElem? (i := 494) (by decide +kernel), List.mem_of_getElem? (i := 495) (by decide +kernel)⟩
theorem lw_p12 : lw_okq (⟨"PascalMachine$Compiler", "refuse", "(I)V"⟩, 4) := ⟨⟨by decide +kernel, by decide +kernel⟩, List.mem_of_getElem? (i := 33) (by decide +kernel), List.mem_of_getElem? (i := 502) (by decide +kernel), List.mem_of_getElem? (i := 503) (by decide +kernel)⟩
theorem lw_p13 : lw_okq (⟨"PascalMachine$Compiler", "expect", "(LPascalMachine$Kind;)V"⟩, 4) := ⟨⟨by decide +kernel, by decide +kernel⟩, List.mem_of_getElem? (i := 33) (by decide +kernel), List.mem_of_getElem? (i := 513) (by decide +kernel), List.mem_of_getElem? (i := 514) (by decide +kernel)⟩
theorem lw_p14 : lw_okq (⟨"PascalMachine$Compiler", "procedure", "(I)V"⟩, 4) := ⟨⟨by decide +kernel, by decide +kernel⟩, List.mem_of_getElem? (i := 33) (by decide +kernel), List.mem_of_getElem? (i := 519) (by decide +kernel), List.mem_of_getElem? (i := 520) (by decide +kernel)⟩
theorem lw_p15 : lw_okq (⟨"PascalMachine$Compiler", "parameters", "(I)V"⟩, 4) := ⟨⟨by decide +kernel, by decide +kernel⟩, List.mem_of_getElem? (i := 33) (by decide +kernel), List.mem_of_getElem? (i := 533) (by decide +kernel), List.mem_of_getElem? (i := 534) (by decide +kernel)⟩
def lw_privs_1 : List (MethodName × Nat) := [(⟨"java/lang/Throwable", "fillInStackTrace", "(I)Ljava/lang/Throwable;"⟩, 6), (⟨"PascalMachine$Tokens", "readToken", "(I)LPascalMachine$Kind;"⟩, 7), (⟨"PascalMachine$Tokens", "behindBlanks", "()I"⟩, 7), (⟨"PascalMachine$Tokens", "readWord", "(II)LPascalMachine$Kind;"⟩, 7), (⟨"PascalMachine$Tokens", "kindSpelled", "(ILPascalMachine$Kind;)LPascalMachine$Kind;"⟩, 7), (⟨"PascalMachine$Tokens", "isSpelled", "(ILjava/lang/String;)Z"⟩, 7), (⟨"PascalMachine$Tokens", "readNumber", "(II)LPascalMachine$Kind;"⟩, 7), (⟨"PascalMachine$Tokens", "readSign", "(I)LPascalMachine$Kind;"⟩, 7), (⟨"PascalMachine$Compiler", "block", "(I)I"⟩, 4), (⟨"PascalMachine$Compiler", "variables", "()V"⟩, 4), (⟨"PascalMachine$Compiler", "declareName", "(I)V"⟩, 4), (⟨"PascalMachine$Names", "isFull", "(I)Z"⟩, 9), (⟨"PascalMachine$Compiler", "refuse", "(I)V"⟩, 4), (⟨"PascalMachine$Compiler", "expect", "(LPascalMachine$Kind;)V"⟩, 4), (⟨"PascalMachine$Compiler", "procedure", "(I)V"⟩, 4), (⟨"PascalMachine$Compiler", "parameters", "(I)V"⟩, 4)]
theorem lw_r1 : ∀ q ∈ lw_privs_1, lw_okq q := List.forall_mem_cons.mpr ⟨lw_p0, List.forall_mem_cons.mpr ⟨lw_p1, List.forall_mem_cons.mpr ⟨lw_p2, List.forall_mem_cons.mpr ⟨lw_p3, List.forall_mem_cons.mpr ⟨lw_p4, List.forall_mem_cons.mpr ⟨lw_p5, List.forall_mem_cons.mpr ⟨lw_p6, List.forall_mem_cons.mpr ⟨lw_p7, List.forall_mem_cons.mpr ⟨lw_p8, List.forall_mem_cons.mpr ⟨lw_p9, List.forall_mem_cons.mpr ⟨lw_p10, List.forall_mem_cons.mpr ⟨lw_p11, List.forall_mem_cons.mpr ⟨lw_p12, List.forall_mem_cons.mpr ⟨lw_p13, List.forall_mem_cons.mpr ⟨lw_p14, List.forall_mem_cons.mpr ⟨lw_p15, fun _ h => absurd h List.not_mem_nil⟩⟩⟩⟩⟩⟩⟩⟩⟩⟩⟩⟩⟩⟩⟩⟩
theorem lw_p16 : lw_okq (⟨"PascalMachine$Compiler", "parameter", "(I)V"⟩, 4) := ⟨⟨by decide +kernel, by decide +kernel⟩, List.mem_of_getElem? (i := 33) (by decide +kernel), List.mem_of_getElem? (i := 537) (by decide +kernel), List.mem_of_getElem? (i := 538) (by decide +kernel)⟩
theorem lw_p17 : lw_okq (⟨"PascalMachine$Compiler", "statements", "(I)V"⟩, 4) := ⟨⟨by decide +kernel, by decide +kernel⟩, List.mem_of_getElem? (i := 33) (by decide +kernel), List.mem_of_getElem? (i := 551) (by decide +kernel), List.mem_of_getElem? (i := 552) (by decide +kernel)⟩
theorem lw_p18 : lw_okq (⟨"PascalMachine$Compiler", "statement", "(I)V"⟩, 4) := ⟨⟨by decide +kernel, by decide +kernel⟩, List.mem_of_getElem? (i := 33) (by decide +kernel), List.mem_of_getElem? (i := 555) (by decide +kernel), List.mem_of_getElem? (i := 556) (by decide +kernel)⟩
theorem lw_p19 : lw_okq (⟨"PascalMachine$Compiler", "assignment", "()V"⟩, 4) := ⟨⟨by decide +kernel, by decide +kernel⟩, List.mem_of_getElem? (i := 33) (by decide +kernel), List.mem_of_getElem? (i := 573) (by decide +kernel), List.mem_of_getElem? (i := 574) (by decide +kernel)⟩
theorem lw_p20 : lw_okq (⟨"PascalMachine$Compiler", "expression", "(I)V"⟩, 4) := ⟨⟨by decide +kernel, by decide +kernel⟩, List.mem_of_getElem? (i := 33) (by decide +kernel), List.mem_of_getElem? (i := 586) (by decide +kernel), List.mem_of_getElem? (i := 587) (by decide +kernel)⟩
theorem lw_p21 : lw_okq (⟨"PascalMachine$Compiler", "term", "(I)V"⟩, 4) := ⟨⟨by decide +kernel, by decide +kernel⟩, List.mem_of_getElem? (i := 33) (by decide +kernel), List.mem_of_getElem? (i := 592) (by decide +kernel), List.mem_of_getElem? (i := 593) (by decide +kernel)⟩
theorem lw_p22 : lw_okq (⟨"PascalMachine$Compiler", "factor", "(I)V"⟩, 4) := ⟨⟨by decide +kernel, by decide +kernel⟩, List.mem_of_getElem? (i := 33) (by decide +kernel), List.mem_of_getElem? (i := 596) (by decide +kernel), List.mem_of_getElem? (i := 597) (by decide +kernel)⟩
theorem lw_p23 : lw_okq (⟨"PascalMachine$Compiler", "variable", "()V"⟩, 4) := ⟨⟨by decide +kernel, by decide +kernel⟩, List.mem_of_getElem? (i := 33) (by decide +kernel), List.mem_of_getElem? (i := 600) (by decide +kernel), List.mem_of_getElem? (i := 601) (by decide +kernel)⟩
theorem lw_p24 : lw_okq (⟨"PascalMachine$Compiler", "multiplication", "()I"⟩, 4) := ⟨⟨by decide +kernel, by decide +kernel⟩, List.mem_of_getElem? (i := 33) (by decide +kernel), List.mem_of_getElem? (i := 616) (by decide +kernel), List.mem_of_getElem? (i := 617) (by decide +kernel)⟩
theorem lw_p25 : lw_okq (⟨"PascalMachine$Compiler", "procedureCall", "()V"⟩, 4) := ⟨⟨by decide +kernel, by decide +kernel⟩, List.mem_of_getElem? (i := 33) (by decide +kernel), List.mem_of_getElem? (i := 622) (by decide +kernel), List.mem_of_getElem? (i := 623) (by decide +kernel)⟩
theorem lw_p26 : lw_okq (⟨"PascalMachine$Compiler", "arguments", "(I)I"⟩, 4) := ⟨⟨by decide +kernel, by decide +kernel⟩, List.mem_of_getElem? (i := 33) (by decide +kernel), List.mem_of_getElem? (i := 626) (by decide +kernel), List.mem_of_getElem? (i := 627) (by decide +kernel)⟩
theorem lw_p27 : lw_okq (⟨"PascalMachine$Compiler", "goDeeper", "(I)V"⟩, 4) := ⟨⟨by decide +kernel, by decide +kernel⟩, List.mem_of_getElem? (i := 33) (by decide +kernel), List.mem_of_getElem? (i := 638) (by decide +kernel), List.mem_of_getElem? (i := 639) (by decide +kernel)⟩
theorem lw_p28 : lw_okq (⟨"PascalMachine$Compiler", "ifStatement", "(I)V"⟩, 4) := ⟨⟨by decide +kernel, by decide +kernel⟩, List.mem_of_getElem? (i := 33) (by decide +kernel), List.mem_of_getElem? (i := 642) (by decide +kernel), List.mem_of_getElem? (i := 643) (by decide +kernel)⟩
theorem lw_p29 : lw_okq (⟨"PascalMachine$Compiler", "condition", "()I"⟩, 4) := ⟨⟨by decide +kernel, by decide +kernel⟩, List.mem_of_getElem? (i := 33) (by decide +kernel), List.mem_of_getElem? (i := 646) (by decide +kernel), List.mem_of_getElem? (i := 647) (by decide +kernel)⟩
theorem lw_p30 : lw_okq (⟨"PascalMachine$Compiler", "comparison", "()I"⟩, 4) := ⟨⟨by decide +kernel, by decide +kernel⟩, List.mem_of_getElem? (i := 33) (by decide +kernel), List.mem_of_getElem? (i := 650) (by decide +kernel), List.mem_of_getElem? (i := 651) (by decide +kernel)⟩
theorem lw_p31 : lw_okq (⟨"PascalMachine$Compiler", "whileStatement", "(I)V"⟩, 4) := ⟨⟨by decide +kernel, by decide +kernel⟩, List.mem_of_getElem? (i := 33) (by decide +kernel), List.mem_of_getElem? (i := 662) (by decide +kernel), List.mem_of_getElem? (i := 663) (by decide +kernel)⟩
def lw_privs_2 : List (MethodName × Nat) := [(⟨"PascalMachine$Compiler", "parameter", "(I)V"⟩, 4), (⟨"PascalMachine$Compiler", "statements", "(I)V"⟩, 4), (⟨"PascalMachine$Compiler", "statement", "(I)V"⟩, 4), (⟨"PascalMachine$Compiler", "assignment", "()V"⟩, 4), (⟨"PascalMachine$Compiler", "expression", "(I)V"⟩, 4), (⟨"PascalMachine$Compiler", "term", "(I)V"⟩, 4), (⟨"PascalMachine$Compiler", "factor", "(I)V"⟩, 4), (⟨"PascalMachine$Compiler", "variable", "()V"⟩, 4), (⟨"PascalMachine$Compiler", "multiplication", "()I"⟩, 4), (⟨"PascalMachine$Compiler", "procedureCall", "()V"⟩, 4), (⟨"PascalMachine$Compiler", "arguments", "(I)I"⟩, 4), (⟨"PascalMachine$Compiler", "goDeeper", "(I)V"⟩, 4), (⟨"PascalMachine$Compiler", "ifStatement", "(I)V"⟩, 4), (⟨"PascalMachine$Compiler", "condition", "()I"⟩, 4), (⟨"PascalMachine$Compiler", "comparison", "()I"⟩, 4), (⟨"PascalMachine$Compiler", "whileStatement", "(I)V"⟩, 4)]
theorem lw_r2 : ∀ q ∈ lw_privs_2, lw_okq q := List.forall_mem_cons.mpr ⟨lw_p16, List.forall_mem_cons.mpr ⟨lw_p17, List.forall_mem_cons.mpr ⟨lw_p18, List.forall_mem_cons.mpr ⟨lw_p19, List.forall_mem_cons.mpr ⟨lw_p20, List.forall_mem_cons.mpr ⟨lw_p21, List.forall_mem_cons.mpr ⟨lw_p22, List.forall_mem_cons.mpr ⟨lw_p23, List.forall_mem_cons.mpr ⟨lw_p24, List.forall_mem_cons.mpr ⟨lw_p25, List.forall_mem_cons.mpr ⟨lw_p26, List.forall_mem_cons.mpr ⟨lw_p27, List.forall_mem_cons.mpr ⟨lw_p28, List.forall_mem_cons.mpr ⟨lw_p29, List.forall_mem_cons.mpr ⟨lw_p30, List.forall_mem_cons.mpr ⟨lw_p31, fun _ h => absurd h List.not_mem_nil⟩⟩⟩⟩⟩⟩⟩⟩⟩⟩⟩⟩⟩⟩⟩⟩
theorem lw_p32 : lw_okq (⟨"PascalMachine$Compiler", "writeStatement", "()V"⟩, 4) := ⟨⟨by decide +kernel, by decide +kernel⟩, List.mem_of_getElem? (i := 33) (by decide +kernel), List.mem_of_getElem? (i := 668) (by decide +kernel), List.mem_of_getElem? (i := 669) (by decide +kernel)⟩
theorem lw_p33 : lw_okq (⟨"PascalMachine$Machine", "begin", "()V"⟩, 13) := ⟨⟨by decide +kernel, by decide +kernel⟩, List.mem_of_getElem? (i := 164) (by decide +kernel), List.mem_of_getElem? (i := 710) (by decide +kernel), List.mem_of_getElem? (i := 711) (by decide +kernel)⟩
theorem lw_p34 : lw_okq (⟨"PascalMachine$Machine", "clearFrame", "()V"⟩, 13) := ⟨⟨by decide +kernel, by decide +kernel⟩, List.mem_of_getElem? (i := 164) (by decide +kernel), List.mem_of_getElem? (i := 714) (by decide +kernel), List.mem_of_getElem? (i := 715) (by decide +kernel)⟩
theorem lw_p35 : lw_okq (⟨"PascalMachine$Machine", "store", "(II)V"⟩, 13) := ⟨⟨by decide +kernel, by decide +kernel⟩, List.mem_of_getElem? (i := 164) (by decide +kernel), List.mem_of_getElem? (i := 718) (by decide +kernel), List.mem_of_getElem? (i := 719) (by decide +kernel)⟩
theorem lw_p36 : lw_okq (⟨"PascalMachine$Machine", "perform", "(III)V"⟩, 13) := ⟨⟨by decide +kernel, by decide +kernel⟩, List.mem_of_getElem? (i := 164) (by decide +kernel), List.mem_of_getElem? (i := 723) (by decide +kernel), List.mem_of_getElem? (i := 724) (by decide +kernel)⟩
theorem lw_p37 : lw_okq (⟨"PascalMachine$Machine", "takeStep", "()V"⟩, 13) := ⟨⟨by decide +kernel, by decide +kernel⟩, List.mem_of_getElem? (i := 164) (by decide +kernel), List.mem_of_getElem? (i := 727) (by decide +kernel), List.mem_of_getElem? (i := 728) (by decide +kernel)⟩
theorem lw_p38 : lw_okq (⟨"PascalMachine$Machine", "push", "(I)V"⟩, 13) := ⟨⟨by decide +kernel, by decide +kernel⟩, List.mem_of_getElem? (i := 164) (by decide +kernel), List.mem_of_getElem? (i := 733) (by decide +kernel), List.mem_of_getElem? (i := 734) (by decide +kernel)⟩
theorem lw_p39 : lw_okq (⟨"PascalMachine$Machine", "address", "(II)I"⟩, 13) := ⟨⟨by decide +kernel, by decide +kernel⟩, List.mem_of_getElem? (i := 164) (by decide +kernel), List.mem_of_getElem? (i := 737) (by decide +kernel), List.mem_of_getElem? (i := 738) (by decide +kernel)⟩
theorem lw_p40 : lw_okq (⟨"PascalMachine$Machine", "frameOutward", "(I)I"⟩, 13) := ⟨⟨by decide +kernel, by decide +kernel⟩, List.mem_of_getElem? (i := 164) (by decide +kernel), List.mem_of_getElem? (i := 741) (by decide +kernel), List.mem_of_getElem? (i := 742) (by decide +kernel)⟩
theorem lw_p41 : lw_okq (⟨"PascalMachine$Machine", "load", "(I)I"⟩, 13) := ⟨⟨by decide +kernel, by decide +kernel⟩, List.mem_of_getElem? (i := 164) (by decide +kernel), List.mem_of_getElem? (i := 745) (by decide +kernel), List.mem_of_getElem? (i := 746) (by decide +kernel)⟩
theorem lw_p42 : lw_okq (⟨"PascalMachine$Machine", "pop", "()I"⟩, 13) := ⟨⟨by decide +kernel, by decide +kernel⟩, List.mem_of_getElem? (i := 164) (by decide +kernel), List.mem_of_getElem? (i := 749) (by decide +kernel), List.mem_of_getElem? (i := 750) (by decide +kernel)⟩
theorem lw_p43 : lw_okq (⟨"PascalMachine$Machine", "enter", "(II)V"⟩, 13) := ⟨⟨by decide +kernel, by decide +kernel⟩, List.mem_of_getElem? (i := 164) (by decide +kernel), List.mem_of_getElem? (i := 753) (by decide +kernel), List.mem_of_getElem? (i := 754) (by decide +kernel)⟩
theorem lw_p44 : lw_okq (⟨"PascalMachine$Machine", "leave", "()V"⟩, 13) := ⟨⟨by decide +kernel, by decide +kernel⟩, List.mem_of_getElem? (i := 164) (by decide +kernel), List.mem_of_getElem? (i := 775) (by decide +kernel), List.mem_of_getElem? (i := 776) (by decide +kernel)⟩
theorem lw_p45 : lw_okq (⟨"PascalMachine$Machine", "put", "(I)V"⟩, 13) := ⟨⟨by decide +kernel, by decide +kernel⟩, List.mem_of_getElem? (i := 164) (by decide +kernel), List.mem_of_getElem? (i := 779) (by decide +kernel), List.mem_of_getElem? (i := 780) (by decide +kernel)⟩
theorem lw_p46 : lw_okq (⟨"PascalMachine$Machine", "combine", "(I)V"⟩, 13) := ⟨⟨by decide +kernel, by decide +kernel⟩, List.mem_of_getElem? (i := 164) (by decide +kernel), List.mem_of_getElem? (i := 783) (by decide +kernel), List.mem_of_getElem? (i := 784) (by decide +kernel)⟩
theorem lw_p47 : lw_okq (⟨"PascalMachineModel", "raise", "(I)I"⟩, 59) := ⟨⟨by decide +kernel, by decide +kernel⟩, List.mem_of_getElem? (i := 825) (by decide +kernel), List.mem_of_getElem? (i := 1017) (by decide +kernel), List.mem_of_getElem? (i := 1018) (by decide +kernel)⟩
def lw_privs_3 : List (MethodName × Nat) := [(⟨"PascalMachine$Compiler", "writeStatement", "()V"⟩, 4), (⟨"PascalMachine$Machine", "begin", "()V"⟩, 13), (⟨"PascalMachine$Machine", "clearFrame", "()V"⟩, 13), (⟨"PascalMachine$Machine", "store", "(II)V"⟩, 13), (⟨"PascalMachine$Machine", "perform", "(III)V"⟩, 13), (⟨"PascalMachine$Machine", "takeStep", "()V"⟩, 13), (⟨"PascalMachine$Machine", "push", "(I)V"⟩, 13), (⟨"PascalMachine$Machine", "address", "(II)I"⟩, 13), (⟨"PascalMachine$Machine", "frameOutward", "(I)I"⟩, 13), (⟨"PascalMachine$Machine", "load", "(I)I"⟩, 13), (⟨"PascalMachine$Machine", "pop", "()I"⟩, 13), (⟨"PascalMachine$Machine", "enter", "(II)V"⟩, 13), (⟨"PascalMachine$Machine", "leave", "()V"⟩, 13), (⟨"PascalMachine$Machine", "put", "(I)V"⟩, 13), (⟨"PascalMachine$Machine", "combine", "(I)V"⟩, 13), (⟨"PascalMachineModel", "raise", "(I)I"⟩, 59)]
theorem lw_r3 : ∀ q ∈ lw_privs_3, lw_okq q := List.forall_mem_cons.mpr ⟨lw_p32, List.forall_mem_cons.mpr ⟨lw_p33, List.forall_mem_cons.mpr ⟨lw_p34, List.forall_mem_cons.mpr ⟨lw_p35, List.forall_mem_cons.mpr ⟨lw_p36, List.forall_mem_cons.mpr ⟨lw_p37, List.forall_mem_cons.mpr ⟨lw_p38, List.forall_mem_cons.mpr ⟨lw_p39, List.forall_mem_cons.mpr ⟨lw_p40, List.forall_mem_cons.mpr ⟨lw_p41, List.forall_mem_cons.mpr ⟨lw_p42, List.forall_mem_cons.mpr ⟨lw_p43, List.forall_mem_cons.mpr ⟨lw_p44, List.forall_mem_cons.mpr ⟨lw_p45, List.forall_mem_cons.mpr ⟨lw_p46, List.forall_mem_cons.mpr ⟨lw_p47, fun _ h => absurd h List.not_mem_nil⟩⟩⟩⟩⟩⟩⟩⟩⟩⟩⟩⟩⟩⟩⟩⟩
theorem lw_p48 : lw_okq (⟨"PascalMachineModel", "cutAll", "()V"⟩, 59) := ⟨⟨by decide +kernel, by decide +kernel⟩, List.mem_of_getElem? (i := 825) (by decide +kernel), List.mem_of_getElem? (i := 1029) (by decide +kernel), List.mem_of_getElem? (i := 1030) (by decide +kernel)⟩
theorem lw_p49 : lw_okq (⟨"PascalMachineModel", "cutWord", "(I)V"⟩, 59) := ⟨⟨by decide +kernel, by decide +kernel⟩, List.mem_of_getElem? (i := 825) (by decide +kernel), List.mem_of_getElem? (i := 1042) (by decide +kernel), List.mem_of_getElem? (i := 1043) (by decide +kernel)⟩
theorem lw_p50 : lw_okq (⟨"PascalMachineModel", "readProgram", "()V"⟩, 59) := ⟨⟨by decide +kernel, by decide +kernel⟩, List.mem_of_getElem? (i := 825) (by decide +kernel), List.mem_of_getElem? (i := 1061) (by decide +kernel), List.mem_of_getElem? (i := 1062) (by decide +kernel)⟩
theorem lw_p51 : lw_okq (⟨"PascalMachineModel", "enter", "(I)V"⟩, 59) := ⟨⟨by decide +kernel, by decide +kernel⟩, List.mem_of_getElem? (i := 825) (by decide +kernel), List.mem_of_getElem? (i := 1065) (by decide +kernel), List.mem_of_getElem? (i := 1066) (by decide +kernel)⟩
theorem lw_p52 : lw_okq (⟨"PascalMachineModel", "beginBlock", "()V"⟩, 59) := ⟨⟨by decide +kernel, by decide +kernel⟩, List.mem_of_getElem? (i := 825) (by decide +kernel), List.mem_of_getElem? (i := 1069) (by decide +kernel), List.mem_of_getElem? (i := 1070) (by decide +kernel)⟩
theorem lw_p53 : lw_okq (⟨"PascalMachineModel", "take", "(I)Z"⟩, 59) := ⟨⟨by decide +kernel, by decide +kernel⟩, List.mem_of_getElem? (i := 825) (by decide +kernel), List.mem_of_getElem? (i := 1073) (by decide +kernel), List.mem_of_getElem? (i := 1074) (by decide +kernel)⟩
theorem lw_p54 : lw_okq (⟨"PascalMachineModel", "declare", "(I)V"⟩, 59) := ⟨⟨by decide +kernel, by decide +kernel⟩, List.mem_of_getElem? (i := 825) (by decide +kernel), List.mem_of_getElem? (i := 1077) (by decide +kernel), List.mem_of_getElem? (i := 1078) (by decide +kernel)⟩
theorem lw_p55 : lw_okq (⟨"PascalMachineModel", "blame", "(I)V"⟩, 59) := ⟨⟨by decide +kernel, by decide +kernel⟩, List.mem_of_getElem? (i := 825) (by decide +kernel), List.mem_of_getElem? (i := 1081) (by decide +kernel), List.mem_of_getElem? (i := 1082) (by decide +kernel)⟩
theorem lw_p56 : lw_okq (⟨"PascalMachineModel", "need", "(I)V"⟩, 59) := ⟨⟨by decide +kernel, by decide +kernel⟩, List.mem_of_getElem? (i := 825) (by decide +kernel), List.mem_of_getElem? (i := 1085) (by decide +kernel), List.mem_of_getElem? (i := 1086) (by decide +kernel)⟩
theorem lw_p57 : lw_okq (⟨"PascalMachineModel", "procedure", "()V"⟩, 59) := ⟨⟨by decide +kernel, by decide +kernel⟩, List.mem_of_getElem? (i := 825) (by decide +kernel), List.mem_of_getElem? (i := 1089) (by decide +kernel), List.mem_of_getElem? (i := 1090) (by decide +kernel)⟩
theorem lw_p58 : lw_okq (⟨"PascalMachineModel", "blockDepth", "()I"⟩, 59) := ⟨⟨by decide +kernel, by decide +kernel⟩, List.mem_of_getElem? (i := 825) (by decide +kernel), List.mem_of_getElem? (i := 1093) (by decide +kernel), List.mem_of_getElem? (i := 1094) (by decide +kernel)⟩
theorem lw_p59 : lw_okq (⟨"PascalMachineModel", "parameter", "(I)V"⟩, 59) := ⟨⟨by decide +kernel, by decide +kernel⟩, List.mem_of_getElem? (i := 825) (by decide +kernel), List.mem_of_getElem? (i := 1097) (by decide +kernel), List.mem_of_getElem? (i := 1098) (by decide +kernel)⟩
theorem lw_p60 : lw_okq (⟨"PascalMachineModel", "statements", "()V"⟩, 59) := ⟨⟨by decide +kernel, by decide +kernel⟩, List.mem_of_getElem? (i := 825) (by decide +kernel), List.mem_of_getElem? (i := 1101) (by decide +kernel), List.mem_of_getElem? (i := 1102) (by decide +kernel)⟩
theorem lw_p61 : lw_okq (⟨"PascalMachineModel", "beginStatement", "()Z"⟩, 59) := ⟨⟨by decide +kernel, by decide +kernel⟩, List.mem_of_getElem? (i := 825) (by decide +kernel), List.mem_of_getElem? (i := 1105) (by decide +kernel), List.mem_of_getElem? (i := 1106) (by decide +kernel)⟩
theorem lw_p62 : lw_okq (⟨"PascalMachineModel", "find", "(I)I"⟩, 59) := ⟨⟨by decide +kernel, by decide +kernel⟩, List.mem_of_getElem? (i := 825) (by decide +kernel), List.mem_of_getElem? (i := 1109) (by decide +kernel), List.mem_of_getElem? (i := 1110) (by decide +kernel)⟩
theorem lw_p63 : lw_okq (⟨"PascalMachineModel", "expression", "()V"⟩, 59) := ⟨⟨by decide +kernel, by decide +kernel⟩, List.mem_of_getElem? (i := 825) (by decide +kernel), List.mem_of_getElem? (i := 1113) (by decide +kernel), List.mem_of_getElem? (i := 1114) (by decide +kernel)⟩
def lw_privs_4 : List (MethodName × Nat) := [(⟨"PascalMachineModel", "cutAll", "()V"⟩, 59), (⟨"PascalMachineModel", "cutWord", "(I)V"⟩, 59), (⟨"PascalMachineModel", "readProgram", "()V"⟩, 59), (⟨"PascalMachineModel", "enter", "(I)V"⟩, 59), (⟨"PascalMachineModel", "beginBlock", "()V"⟩, 59), (⟨"PascalMachineModel", "take", "(I)Z"⟩, 59), (⟨"PascalMachineModel", "declare", "(I)V"⟩, 59), (⟨"PascalMachineModel", "blame", "(I)V"⟩, 59), (⟨"PascalMachineModel", "need", "(I)V"⟩, 59), (⟨"PascalMachineModel", "procedure", "()V"⟩, 59), (⟨"PascalMachineModel", "blockDepth", "()I"⟩, 59), (⟨"PascalMachineModel", "parameter", "(I)V"⟩, 59), (⟨"PascalMachineModel", "statements", "()V"⟩, 59), (⟨"PascalMachineModel", "beginStatement", "()Z"⟩, 59), (⟨"PascalMachineModel", "find", "(I)I"⟩, 59), (⟨"PascalMachineModel", "expression", "()V"⟩, 59)]
theorem lw_r4 : ∀ q ∈ lw_privs_4, lw_okq q := List.forall_mem_cons.mpr ⟨lw_p48, List.forall_mem_cons.mpr ⟨lw_p49, List.forall_mem_cons.mpr ⟨lw_p50, List.forall_mem_cons.mpr ⟨lw_p51, List.forall_mem_cons.mpr ⟨lw_p52, List.forall_mem_cons.mpr ⟨lw_p53, List.forall_mem_cons.mpr ⟨lw_p54, List.forall_mem_cons.mpr ⟨lw_p55, List.forall_mem_cons.mpr ⟨lw_p56, List.forall_mem_cons.mpr ⟨lw_p57, List.forall_mem_cons.mpr ⟨lw_p58, List.forall_mem_cons.mpr ⟨lw_p59, List.forall_mem_cons.mpr ⟨lw_p60, List.forall_mem_cons.mpr ⟨lw_p61, List.forall_mem_cons.mpr ⟨lw_p62, List.forall_mem_cons.mpr ⟨lw_p63, fun _ h => absurd h List.not_mem_nil⟩⟩⟩⟩⟩⟩⟩⟩⟩⟩⟩⟩⟩⟩⟩⟩
theorem lw_p64 : lw_okq (⟨"PascalMachineModel", "factor", "()V"⟩, 59) := ⟨⟨by decide +kernel, by decide +kernel⟩, List.mem_of_getElem? (i := 825) (by decide +kernel), List.mem_of_getElem? (i := 1117) (by decide +kernel), List.mem_of_getElem? (i := 1118) (by decide +kernel)⟩
theorem lw_p65 : lw_okq (⟨"PascalMachineModel", "operator", "(I)Z"⟩, 59) := ⟨⟨by decide +kernel, by decide +kernel⟩, List.mem_of_getElem? (i := 825) (by decide +kernel), List.mem_of_getElem? (i := 1121) (by decide +kernel), List.mem_of_getElem? (i := 1122) (by decide +kernel)⟩
theorem lw_p66 : lw_okq (⟨"PascalMachineModel", "call", "(II)V"⟩, 59) := ⟨⟨by decide +kernel, by decide +kernel⟩, List.mem_of_getElem? (i := 825) (by decide +kernel), List.mem_of_getElem? (i := 1125) (by decide +kernel), List.mem_of_getElem? (i := 1126) (by decide +kernel)⟩
theorem lw_p67 : lw_okq (⟨"PascalMachineModel", "argument", "(II)V"⟩, 59) := ⟨⟨by decide +kernel, by decide +kernel⟩, List.mem_of_getElem? (i := 825) (by decide +kernel), List.mem_of_getElem? (i := 1129) (by decide +kernel), List.mem_of_getElem? (i := 1130) (by decide +kernel)⟩
theorem lw_p68 : lw_okq (⟨"PascalMachineModel", "parameterOf", "(II)I"⟩, 59) := ⟨⟨by decide +kernel, by decide +kernel⟩, List.mem_of_getElem? (i := 825) (by decide +kernel), List.mem_of_getElem? (i := 1133) (by decide +kernel), List.mem_of_getElem? (i := 1134) (by decide +kernel)⟩
theorem lw_p69 : lw_okq (⟨"PascalMachineModel", "deeper", "(II)V"⟩, 59) := ⟨⟨by decide +kernel, by decide +kernel⟩, List.mem_of_getElem? (i := 825) (by decide +kernel), List.mem_of_getElem? (i := 1137) (by decide +kernel), List.mem_of_getElem? (i := 1138) (by decide +kernel)⟩
theorem lw_p70 : lw_okq (⟨"PascalMachineModel", "condition", "()V"⟩, 59) := ⟨⟨by decide +kernel, by decide +kernel⟩, List.mem_of_getElem? (i := 825) (by decide +kernel), List.mem_of_getElem? (i := 1141) (by decide +kernel), List.mem_of_getElem? (i := 1142) (by decide +kernel)⟩
theorem lw_p71 : lw_okq (⟨"PascalMachineModel", "behindStatement", "()Z"⟩, 59) := ⟨⟨by decide +kernel, by decide +kernel⟩, List.mem_of_getElem? (i := 825) (by decide +kernel), List.mem_of_getElem? (i := 1145) (by decide +kernel), List.mem_of_getElem? (i := 1146) (by decide +kernel)⟩
theorem lw_p72 : lw_okq (⟨"PascalMachineModel", "statement", "()V"⟩, 59) := ⟨⟨by decide +kernel, by decide +kernel⟩, List.mem_of_getElem? (i := 825) (by decide +kernel), List.mem_of_getElem? (i := 1157) (by decide +kernel), List.mem_of_getElem? (i := 1158) (by decide +kernel)⟩
theorem lw_p73 : lw_okq (⟨"PascalMachineModel", "step", "()V"⟩, 59) := ⟨⟨by decide +kernel, by decide +kernel⟩, List.mem_of_getElem? (i := 825) (by decide +kernel), List.mem_of_getElem? (i := 1161) (by decide +kernel), List.mem_of_getElem? (i := 1162) (by decide +kernel)⟩
theorem lw_p74 : lw_okq (⟨"PascalMachineModel", "enterCall", "(I)V"⟩, 59) := ⟨⟨by decide +kernel, by decide +kernel⟩, List.mem_of_getElem? (i := 825) (by decide +kernel), List.mem_of_getElem? (i := 1165) (by decide +kernel), List.mem_of_getElem? (i := 1166) (by decide +kernel)⟩
theorem lw_p75 : lw_okq (⟨"PascalMachineModel", "place", "(I)I"⟩, 59) := ⟨⟨by decide +kernel, by decide +kernel⟩, List.mem_of_getElem? (i := 825) (by decide +kernel), List.mem_of_getElem? (i := 1169) (by decide +kernel), List.mem_of_getElem? (i := 1170) (by decide +kernel)⟩
theorem lw_p76 : lw_okq (⟨"PascalMachineModel", "runOf", "(I)I"⟩, 59) := ⟨⟨by decide +kernel, by decide +kernel⟩, List.mem_of_getElem? (i := 825) (by decide +kernel), List.mem_of_getElem? (i := 1173) (by decide +kernel), List.mem_of_getElem? (i := 1174) (by decide +kernel)⟩
theorem lw_p77 : lw_okq (⟨"PascalMachineModel", "slot", "(I)I"⟩, 59) := ⟨⟨by decide +kernel, by decide +kernel⟩, List.mem_of_getElem? (i := 825) (by decide +kernel), List.mem_of_getElem? (i := 1177) (by decide +kernel), List.mem_of_getElem? (i := 1178) (by decide +kernel)⟩
theorem lw_p78 : lw_okq (⟨"PascalMachineModel", "evaluate", "()I"⟩, 59) := ⟨⟨by decide +kernel, by decide +kernel⟩, List.mem_of_getElem? (i := 825) (by decide +kernel), List.mem_of_getElem? (i := 1181) (by decide +kernel), List.mem_of_getElem? (i := 1182) (by decide +kernel)⟩
theorem lw_p79 : lw_okq (⟨"PascalMachineModel", "openSum", "(I)V"⟩, 59) := ⟨⟨by decide +kernel, by decide +kernel⟩, List.mem_of_getElem? (i := 825) (by decide +kernel), List.mem_of_getElem? (i := 1185) (by decide +kernel), List.mem_of_getElem? (i := 1186) (by decide +kernel)⟩
def lw_privs_5 : List (MethodName × Nat) := [(⟨"PascalMachineModel", "factor", "()V"⟩, 59), (⟨"PascalMachineModel", "operator", "(I)Z"⟩, 59), (⟨"PascalMachineModel", "call", "(II)V"⟩, 59), (⟨"PascalMachineModel", "argument", "(II)V"⟩, 59), (⟨"PascalMachineModel", "parameterOf", "(II)I"⟩, 59), (⟨"PascalMachineModel", "deeper", "(II)V"⟩, 59), (⟨"PascalMachineModel", "condition", "()V"⟩, 59), (⟨"PascalMachineModel", "behindStatement", "()Z"⟩, 59), (⟨"PascalMachineModel", "statement", "()V"⟩, 59), (⟨"PascalMachineModel", "step", "()V"⟩, 59), (⟨"PascalMachineModel", "enterCall", "(I)V"⟩, 59), (⟨"PascalMachineModel", "place", "(I)I"⟩, 59), (⟨"PascalMachineModel", "runOf", "(I)I"⟩, 59), (⟨"PascalMachineModel", "slot", "(I)I"⟩, 59), (⟨"PascalMachineModel", "evaluate", "()I"⟩, 59), (⟨"PascalMachineModel", "openSum", "(I)V"⟩, 59)]
theorem lw_r5 : ∀ q ∈ lw_privs_5, lw_okq q := List.forall_mem_cons.mpr ⟨lw_p64, List.forall_mem_cons.mpr ⟨lw_p65, List.forall_mem_cons.mpr ⟨lw_p66, List.forall_mem_cons.mpr ⟨lw_p67, List.forall_mem_cons.mpr ⟨lw_p68, List.forall_mem_cons.mpr ⟨lw_p69, List.forall_mem_cons.mpr ⟨lw_p70, List.forall_mem_cons.mpr ⟨lw_p71, List.forall_mem_cons.mpr ⟨lw_p72, List.forall_mem_cons.mpr ⟨lw_p73, List.forall_mem_cons.mpr ⟨lw_p74, List.forall_mem_cons.mpr ⟨lw_p75, List.forall_mem_cons.mpr ⟨lw_p76, List.forall_mem_cons.mpr ⟨lw_p77, List.forall_mem_cons.mpr ⟨lw_p78, List.forall_mem_cons.mpr ⟨lw_p79, fun _ h => absurd h List.not_mem_nil⟩⟩⟩⟩⟩⟩⟩⟩⟩⟩⟩⟩⟩⟩⟩⟩
theorem lw_p80 : lw_okq (⟨"PascalMachineModel", "multiply", "(II)V"⟩, 59) := ⟨⟨by decide +kernel, by decide +kernel⟩, List.mem_of_getElem? (i := 825) (by decide +kernel), List.mem_of_getElem? (i := 1189) (by decide +kernel), List.mem_of_getElem? (i := 1190) (by decide +kernel)⟩
theorem lw_p81 : lw_okq (⟨"PascalMachineModel", "add", "(I)V"⟩, 59) := ⟨⟨by decide +kernel, by decide +kernel⟩, List.mem_of_getElem? (i := 825) (by decide +kernel), List.mem_of_getElem? (i := 1193) (by decide +kernel), List.mem_of_getElem? (i := 1194) (by decide +kernel)⟩
theorem lw_p82 : lw_okq (⟨"PascalMachineModel", "over", "()V"⟩, 59) := ⟨⟨by decide +kernel, by decide +kernel⟩, List.mem_of_getElem? (i := 825) (by decide +kernel), List.mem_of_getElem? (i := 1197) (by decide +kernel), List.mem_of_getElem? (i := 1198) (by decide +kernel)⟩
theorem lw_p83 : lw_okq (⟨"PascalMachineModel", "write", "(I)V"⟩, 59) := ⟨⟨by decide +kernel, by decide +kernel⟩, List.mem_of_getElem? (i := 825) (by decide +kernel), List.mem_of_getElem? (i := 1201) (by decide +kernel), List.mem_of_getElem? (i := 1202) (by decide +kernel)⟩
theorem lw_p84 : lw_okq (⟨"PascalMachineModel", "push", "(II)V"⟩, 59) := ⟨⟨by decide +kernel, by decide +kernel⟩, List.mem_of_getElem? (i := 825) (by decide +kernel), List.mem_of_getElem? (i := 1205) (by decide +kernel), List.mem_of_getElem? (i := 1206) (by decide +kernel)⟩
theorem lw_p85 : lw_okq (⟨"PascalMachineModel", "test", "(I)V"⟩, 59) := ⟨⟨by decide +kernel, by decide +kernel⟩, List.mem_of_getElem? (i := 825) (by decide +kernel), List.mem_of_getElem? (i := 1209) (by decide +kernel), List.mem_of_getElem? (i := 1210) (by decide +kernel)⟩
theorem lw_p86 : lw_okq (⟨"PascalMachineModel", "holds", "()Z"⟩, 59) := ⟨⟨by decide +kernel, by decide +kernel⟩, List.mem_of_getElem? (i := 825) (by decide +kernel), List.mem_of_getElem? (i := 1213) (by decide +kernel), List.mem_of_getElem? (i := 1214) (by decide +kernel)⟩
def lw_privs_6 : List (MethodName × Nat) := [(⟨"PascalMachineModel", "multiply", "(II)V"⟩, 59), (⟨"PascalMachineModel", "add", "(I)V"⟩, 59), (⟨"PascalMachineModel", "over", "()V"⟩, 59), (⟨"PascalMachineModel", "write", "(I)V"⟩, 59), (⟨"PascalMachineModel", "push", "(II)V"⟩, 59), (⟨"PascalMachineModel", "test", "(I)V"⟩, 59), (⟨"PascalMachineModel", "holds", "()Z"⟩, 59)]
theorem lw_r6 : ∀ q ∈ lw_privs_6, lw_okq q := List.forall_mem_cons.mpr ⟨lw_p80, List.forall_mem_cons.mpr ⟨lw_p81, List.forall_mem_cons.mpr ⟨lw_p82, List.forall_mem_cons.mpr ⟨lw_p83, List.forall_mem_cons.mpr ⟨lw_p84, List.forall_mem_cons.mpr ⟨lw_p85, List.forall_mem_cons.mpr ⟨lw_p86, fun _ h => absurd h List.not_mem_nil⟩⟩⟩⟩⟩⟩⟩
def lw_privs : List (MethodName × Nat) := lw_privs_1 ++ (lw_privs_2 ++ (lw_privs_3 ++ (lw_privs_4 ++ (lw_privs_5 ++ (lw_privs_6)))))
def lw_tbl : List Cond := k2_sels lw_privs ++ tables_1
theorem lw_privs_ok : ∀ q ∈ lw_privs, lw_okq q := by
  show ∀ q ∈ lw_privs_1 ++ (lw_privs_2 ++ (lw_privs_3 ++ (lw_privs_4 ++ (lw_privs_5 ++ (lw_privs_6))))), lw_okq q
  exact List.forall_mem_append.mpr ⟨lw_r1, List.forall_mem_append.mpr ⟨lw_r2, List.forall_mem_append.mpr ⟨lw_r3, List.forall_mem_append.mpr ⟨lw_r4, List.forall_mem_append.mpr ⟨lw_r5, lw_r6⟩⟩⟩⟩⟩
end
section
/-- the words that every method takes along: those of the tables that no walk moves -/
def gt : List Cond := lw_tbl.filter goodWord
theorem gt_good : ∀ w ∈ gt, (w.onTables && w.keeps) = true ∨ ∃ ty, w = .arrayClass ty := fun w h => good_of_word (List.mem_filter.mp h).2
theorem gtm {w : Cond} (i : Nat) (h : tables_1[i]? = some w) (hg : goodWord w = true) : w ∈ gt := List.mem_filter.mpr ⟨List.mem_append_right _ (List.mem_of_getElem? h), hg⟩
theorem gts {q : MethodName × Nat} (i : Nat) (h : lw_privs[i]? = some q) (hg : goodWord (Cond.selects q.1.cls q.1 q.1) = true) : Cond.selects q.1.cls q.1 q.1 ∈ gt := List.mem_filter.mpr ⟨List.mem_append_left _ (List.mem_map.mpr ⟨q, List.mem_of_getElem? h, rfl⟩), hg⟩
theorem gta {L : List Cond} (h : L.all (fun w => decide (w ∈ tables_1) && goodWord w) = true) : ∀ w ∈ L, w ∈ gt := fun w hw => by
  have h1 := List.all_eq_true.mp h w hw
  rw [Bool.and_eq_true, decide_eq_true_eq] at h1
  exact List.mem_filter.mpr ⟨List.mem_append_right _ h1.1, h1.2⟩
abbrev R_Co : String := "PascalMachine$Code"
def F_Co : u_T := fun k => match k with
  | 0 => ("PascalMachine$Code", "operations", "[I", true)
  | 1 => ("PascalMachine$Code", "firsts", "[I", true)
  | 2 => ("PascalMachine$Code", "seconds", "[I", true)
  | 3 => ("PascalMachine$Code", "entries", "[I", true)
  | 4 => ("PascalMachine$Code", "parameters", "[I", true)
  | 5 => ("PascalMachine$Code", "references", "[I", true)
  | 6 => ("PascalMachine$Code", "size", "I", false)
  | _ => ("PascalMachine$Code", "start", "I", false)
def t_Co : Nat → FieldType := fun k => match k with
  | 0 => .array .int
  | 1 => .array .int
  | 2 => .array .int
  | 3 => .array .int
  | 4 => .array .int
  | 5 => .array .int
  | 6 => .int
  | _ => .int
theorem n_Co : ∀ a, a < 8 → ∀ b, b < 8 → a ≠ b → (F_Co a).2.1 ≠ (F_Co b).2.1 := by decide +kernel
theorem t_Co_ok : ∀ k, k < 8 → parseFieldDescriptor (F_Co k).2.2.1 = some (t_Co k) := by decide +kernel
theorem in_Co : ∀ w ∈ u_ws R_Co F_Co 8, w ∈ gt := gta (by decide +kernel)
abbrev R_Cp : String := "PascalMachine$Compiler"
def F_Cp : u_T := fun k => match k with
  | 0 => ("PascalMachine$Compiler", "tokens", "LPascalMachine$Tokens;", true)
  | 1 => ("PascalMachine$Compiler", "names", "LPascalMachine$Names;", true)
  | 2 => ("PascalMachine$Compiler", "code", "LPascalMachine$Code;", false)
  | _ => ("PascalMachine$Compiler", "faultPlace", "I", false)
def t_Cp : Nat → FieldType := fun k => match k with
  | 0 => .object "PascalMachine$Tokens"
  | 1 => .object "PascalMachine$Names"
  | 2 => .object "PascalMachine$Code"
  | _ => .int
theorem n_Cp : ∀ a, a < 4 → ∀ b, b < 4 → a ≠ b → (F_Cp a).2.1 ≠ (F_Cp b).2.1 := by decide +kernel
theorem t_Cp_ok : ∀ k, k < 4 → parseFieldDescriptor (F_Cp k).2.2.1 = some (t_Cp k) := by decide +kernel
theorem in_Cp : ∀ w ∈ u_ws R_Cp F_Cp 4, w ∈ gt := gta (by decide +kernel)
abbrev R_Mc : String := "PascalMachine$Machine"
def F_Mc : u_T := fun k => match k with
  | 0 => ("PascalMachine$Machine", "program", "LPascalMachine$Code;", false)
  | 1 => ("PascalMachine$Machine", "cells", "[I", true)
  | 2 => ("PascalMachine$Machine", "outerFrames", "[I", true)
  | 3 => ("PascalMachine$Machine", "returns", "[I", true)
  | 4 => ("PascalMachine$Machine", "stack", "[I", true)
  | 5 => ("PascalMachine$Machine", "top", "I", false)
  | 6 => ("PascalMachine$Machine", "depth", "I", false)
  | 7 => ("PascalMachine$Machine", "next", "I", false)
  | 8 => ("PascalMachine$Machine", "values", "[I", true)
  | 9 => ("PascalMachine$Machine", "written", "I", false)
  | 10 => ("PascalMachine$Machine", "lost", "I", false)
  | 11 => ("PascalMachine$Machine", "steps", "I", false)
  | _ => ("PascalMachine$Machine", "deepest", "I", false)
def t_Mc : Nat → FieldType := fun k => match k with
  | 0 => .object "PascalMachine$Code"
  | 1 => .array .int
  | 2 => .array .int
  | 3 => .array .int
  | 4 => .array .int
  | 5 => .int
  | 6 => .int
  | 7 => .int
  | 8 => .array .int
  | 9 => .int
  | 10 => .int
  | 11 => .int
  | _ => .int
theorem n_Mc : ∀ a, a < 13 → ∀ b, b < 13 → a ≠ b → (F_Mc a).2.1 ≠ (F_Mc b).2.1 := by decide +kernel
theorem t_Mc_ok : ∀ k, k < 13 → parseFieldDescriptor (F_Mc k).2.2.1 = some (t_Mc k) := by decide +kernel
theorem in_Mc : ∀ w ∈ u_ws R_Mc F_Mc 13, w ∈ gt := gta (by decide +kernel)
abbrev R_Nm : String := "PascalMachine$Names"
def F_Nm : u_T := fun k => match k with
  | 0 => ("PascalMachine$Names", "words", "[J", true)
  | 1 => ("PascalMachine$Names", "kinds", "[I", true)
  | 2 => ("PascalMachine$Names", "levels", "[I", true)
  | 3 => ("PascalMachine$Names", "numbers", "[I", true)
  | 4 => ("PascalMachine$Names", "slots", "[I", true)
  | 5 => ("PascalMachine$Names", "known", "I", false)
  | 6 => ("PascalMachine$Names", "level", "I", false)
  | 7 => ("PascalMachine$Names", "variables", "I", false)
  | _ => ("PascalMachine$Names", "procedures", "I", false)
def t_Nm : Nat → FieldType := fun k => match k with
  | 0 => .array .long
  | 1 => .array .int
  | 2 => .array .int
  | 3 => .array .int
  | 4 => .array .int
  | 5 => .int
  | 6 => .int
  | 7 => .int
  | _ => .int
theorem n_Nm : ∀ a, a < 9 → ∀ b, b < 9 → a ≠ b → (F_Nm a).2.1 ≠ (F_Nm b).2.1 := by decide +kernel
theorem t_Nm_ok : ∀ k, k < 9 → parseFieldDescriptor (F_Nm k).2.2.1 = some (t_Nm k) := by decide +kernel
theorem in_Nm : ∀ w ∈ u_ws R_Nm F_Nm 9, w ∈ gt := gta (by decide +kernel)
abbrev R_Tk : String := "PascalMachine$Tokens"
def F_Tk : u_T := fun k => match k with
  | 0 => ("PascalMachine$Tokens", "kinds", "[LPascalMachine$Kind;", true)
  | 1 => ("PascalMachine$Tokens", "places", "[I", true)
  | 2 => ("PascalMachine$Tokens", "contents", "[J", true)
  | 3 => ("PascalMachine$Tokens", "text", "[C", false)
  | 4 => ("PascalMachine$Tokens", "length", "I", false)
  | 5 => ("PascalMachine$Tokens", "end", "I", false)
  | _ => ("PascalMachine$Tokens", "current", "I", false)
def t_Tk : Nat → FieldType := fun k => match k with
  | 0 => .array (.object "PascalMachine$Kind")
  | 1 => .array .int
  | 2 => .array .long
  | 3 => .array .char
  | 4 => .int
  | 5 => .int
  | _ => .int
theorem n_Tk : ∀ a, a < 7 → ∀ b, b < 7 → a ≠ b → (F_Tk a).2.1 ≠ (F_Tk b).2.1 := by decide +kernel
theorem t_Tk_ok : ∀ k, k < 7 → parseFieldDescriptor (F_Tk k).2.2.1 = some (t_Tk k) := by decide +kernel
theorem in_Tk : ∀ w ∈ u_ws R_Tk F_Tk 7, w ∈ gt := gta (by decide +kernel)
abbrev R_PM : String := "PascalMachine"
def F_PM : u_T := fun k => match k with
  | 0 => ("PascalMachine", "text", "[C", true)
  | 1 => ("PascalMachine", "length", "I", false)
  | 2 => ("PascalMachine", "compiler", "LPascalMachine$Compiler;", true)
  | 3 => ("PascalMachine", "machine", "LPascalMachine$Machine;", true)
  | _ => ("PascalMachine", "hasProgram", "Z", false)
def t_PM : Nat → FieldType := fun k => match k with
  | 0 => .array .char
  | 1 => .int
  | 2 => .object "PascalMachine$Compiler"
  | 3 => .object "PascalMachine$Machine"
  | _ => .boolean
theorem n_PM : ∀ a, a < 5 → ∀ b, b < 5 → a ≠ b → (F_PM a).2.1 ≠ (F_PM b).2.1 := by decide +kernel
theorem t_PM_ok : ∀ k, k < 5 → parseFieldDescriptor (F_PM k).2.2.1 = some (t_PM k) := by decide +kernel
theorem in_PM : ∀ w ∈ u_ws R_PM F_PM 5, w ∈ gt := gta (by decide +kernel)
abbrev R_Mo : String := "PascalMachineModel"
def F_Mo : u_T := fun k => match k with
  | 0 => ("PascalMachineModel", "thrown", "I", false)
  | 1 => ("PascalMachineModel", "text", "[I", true)
  | 2 => ("PascalMachineModel", "length", "I", false)
  | 3 => ("PascalMachineModel", "kind", "[I", true)
  | 4 => ("PascalMachineModel", "word", "[J", true)
  | 5 => ("PascalMachineModel", "from", "[I", true)
  | 6 => ("PascalMachineModel", "to", "[I", true)
  | 7 => ("PascalMachineModel", "means", "[I", true)
  | 8 => ("PascalMachineModel", "next", "[I", true)
  | 9 => ("PascalMachineModel", "tokens", "I", false)
  | 10 => ("PascalMachineModel", "pKind", "[I", true)
  | 11 => ("PascalMachineModel", "pWord", "[I", true)
  | 12 => ("PascalMachineModel", "pMeans", "[I", true)
  | 13 => ("PascalMachineModel", "pNext", "[I", true)
  | 14 => ("PascalMachineModel", "program", "Z", false)
  | 15 => ("PascalMachineModel", "fault", "I", false)
  | 16 => ("PascalMachineModel", "name", "[J", true)
  | 17 => ("PascalMachineModel", "sort", "[I", true)
  | 18 => ("PascalMachineModel", "home", "[I", true)
  | 19 => ("PascalMachineModel", "own", "[I", true)
  | 20 => ("PascalMachineModel", "wants", "[I", true)
  | 21 => ("PascalMachineModel", "symbols", "I", false)
  | 22 => ("PascalMachineModel", "variables", "I", false)
  | 23 => ("PascalMachineModel", "procedures", "I", false)
  | 24 => ("PascalMachineModel", "around", "[I", true)
  | 25 => ("PascalMachineModel", "body", "[I", true)
  | 26 => ("PascalMachineModel", "blocks", "I", false)
  | 27 => ("PascalMachineModel", "block", "I", false)
  | 28 => ("PascalMachineModel", "pSort", "[I", true)
  | 29 => ("PascalMachineModel", "pHome", "[I", true)
  | 30 => ("PascalMachineModel", "pOwn", "[I", true)
  | 31 => ("PascalMachineModel", "pWants", "[I", true)
  | 32 => ("PascalMachineModel", "pBody", "[I", true)
  | 33 => ("PascalMachineModel", "at", "I", false)
  | 34 => ("PascalMachineModel", "wrong", "I", false)
  | 35 => ("PascalMachineModel", "within", "[I", true)
  | 36 => ("PascalMachineModel", "since", "[I", true)
  | 37 => ("PascalMachineModel", "deep", "I", false)
  | 38 => ("PascalMachineModel", "cell", "[I", true)
  | 39 => ("PascalMachineModel", "stands", "[I", true)
  | 40 => ("PascalMachineModel", "blockOf", "[I", true)
  | 41 => ("PascalMachineModel", "outer", "[I", true)
  | 42 => ("PascalMachineModel", "back", "[I", true)
  | 43 => ("PascalMachineModel", "level", "[I", true)
  | 44 => ("PascalMachineModel", "doing", "[I", true)
  | 45 => ("PascalMachineModel", "doneAt", "[I", true)
  | 46 => ("PascalMachineModel", "frame", "I", false)
  | 47 => ("PascalMachineModel", "pc", "I", false)
  | 48 => ("PascalMachineModel", "failure", "I", false)
  | 49 => ("PascalMachineModel", "steps", "I", false)
  | 50 => ("PascalMachineModel", "greatest", "I", false)
  | 51 => ("PascalMachineModel", "lost", "I", false)
  | 52 => ("PascalMachineModel", "output", "[I", true)
  | 53 => ("PascalMachineModel", "written", "I", false)
  | 54 => ("PascalMachineModel", "sum", "[I", true)
  | 55 => ("PascalMachineModel", "term", "[I", true)
  | 56 => ("PascalMachineModel", "sumSign", "[I", true)
  | 57 => ("PascalMachineModel", "termSign", "[I", true)
  | _ => ("PascalMachineModel", "given", "[I", true)
def t_Mo : Nat → FieldType := fun k => match k with
  | 0 => .int
  | 1 => .array .int
  | 2 => .int
  | 3 => .array .int
  | 4 => .array .long
  | 5 => .array .int
  | 6 => .array .int
  | 7 => .array .int
  | 8 => .array .int
  | 9 => .int
  | 10 => .array .int
  | 11 => .array .int
  | 12 => .array .int
  | 13 => .array .int
  | 14 => .boolean
  | 15 => .int
  | 16 => .array .long
  | 17 => .array .int
  | 18 => .array .int
  | 19 => .array .int
  | 20 => .array .int
  | 21 => .int
  | 22 => .int
  | 23 => .int
  | 24 => .array .int
  | 25 => .array .int
  | 26 => .int
  | 27 => .int
  | 28 => .array .int
  | 29 => .array .int
  | 30 => .array .int
  | 31 => .array .int
  | 32 => .array .int
  | 33 => .int
  | 34 => .int
  | 35 => .array .int
  | 36 => .array .int
  | 37 => .int
  | 38 => .array .int
  | 39 => .array .int
  | 40 => .array .int
  | 41 => .array .int
  | 42 => .array .int
  | 43 => .array .int
  | 44 => .array .int
  | 45 => .array .int
  | 46 => .int
  | 47 => .int
  | 48 => .int
  | 49 => .int
  | 50 => .int
  | 51 => .int
  | 52 => .array .int
  | 53 => .int
  | 54 => .array .int
  | 55 => .array .int
  | 56 => .array .int
  | 57 => .array .int
  | _ => .array .int
theorem n_Mo : ∀ a, a < 59 → ∀ b, b < 59 → a ≠ b → (F_Mo a).2.1 ≠ (F_Mo b).2.1 := by decide +kernel
theorem t_Mo_ok : ∀ k, k < 59 → parseFieldDescriptor (F_Mo k).2.2.1 = some (t_Mo k) := by decide +kernel
theorem in_Mo : ∀ w ∈ u_ws R_Mo F_Mo 59, w ∈ gt := gta (by decide +kernel)
abbrev classes : List vw_C := [(R_Co, F_Co, 8), (R_Cp, F_Cp, 4), (R_Mc, F_Mc, 13), (R_Nm, F_Nm, 9), (R_Tk, F_Tk, 7), (R_PM, F_PM, 5), (R_Mo, F_Mo, 59)]
end
section
/-! ===== words: what a pool entry links to ===== -/
theorem k_PM_1 : Cond.methodLink "PascalMachine" 1 ⟨"java/lang/Object", "<init>", "()V"⟩ ∈ gt := gtm 29 (by decide +kernel) (by decide +kernel)
theorem k_PM_17 : Cond.classLink "PascalMachine" 17 "PascalMachine$Compiler" ∈ gt := gtm 32 (by decide +kernel) (by decide +kernel)
theorem k_Cp_3 : Cond.methodLink "PascalMachine$Compiler" 3 ⟨"java/lang/Object", "<init>", "()V"⟩ ∈ gt := gtm 37 (by decide +kernel) (by decide +kernel)
theorem k_Cp_9 : Cond.classLink "PascalMachine$Compiler" 9 "PascalMachine$Tokens" ∈ gt := gtm 38 (by decide +kernel) (by decide +kernel)
theorem k_Tk_3 : Cond.methodLink "PascalMachine$Tokens" 3 ⟨"java/lang/Object", "<init>", "()V"⟩ ∈ gt := gtm 43 (by decide +kernel) (by decide +kernel)
theorem k_Tk_9 : Cond.classLink "PascalMachine$Tokens" 9 "PascalMachine$Kind" ∈ gt := gtm 44 (by decide +kernel) (by decide +kernel)
theorem k_Tk_11 : Cond.fieldLink "PascalMachine$Tokens" 11 "PascalMachine$Tokens" "kinds" "[LPascalMachine$Kind;" ∈ gt := gtm 46 (by decide +kernel) (by decide +kernel)
theorem k_Tk_17 : Cond.fieldLink "PascalMachine$Tokens" 17 "PascalMachine$Tokens" "places" "[I" ∈ gt := gtm 47 (by decide +kernel) (by decide +kernel)
theorem k_Tk_21 : Cond.fieldLink "PascalMachine$Tokens" 21 "PascalMachine$Tokens" "contents" "[J" ∈ gt := gtm 48 (by decide +kernel) (by decide +kernel)
theorem k_Tk_25 : Cond.fieldLink "PascalMachine$Tokens" 25 "PascalMachine$Tokens" "text" "[C" ∈ gt := gtm 49 (by decide +kernel) (by decide +kernel)
theorem k_Tk_29 : Cond.fieldLink "PascalMachine$Tokens" 29 "PascalMachine$Tokens" "length" "I" ∈ gt := gtm 50 (by decide +kernel) (by decide +kernel)
theorem k_Tk_33 : Cond.fieldLink "PascalMachine$Tokens" 33 "PascalMachine$Tokens" "end" "I" ∈ gt := gtm 51 (by decide +kernel) (by decide +kernel)
theorem k_Tk_36 : Cond.fieldLink "PascalMachine$Tokens" 36 "PascalMachine$Tokens" "current" "I" ∈ gt := gtm 52 (by decide +kernel) (by decide +kernel)
theorem k_Cp_18 : Cond.classLink "PascalMachine$Compiler" 18 "PascalMachine$Names" ∈ gt := gtm 71 (by decide +kernel) (by decide +kernel)
theorem k_Nm_3 : Cond.methodLink "PascalMachine$Names" 3 ⟨"java/lang/Object", "<init>", "()V"⟩ ∈ gt := gtm 76 (by decide +kernel) (by decide +kernel)
theorem k_Nm_9 : Cond.fieldLink "PascalMachine$Names" 9 "PascalMachine$Names" "words" "[J" ∈ gt := gtm 77 (by decide +kernel) (by decide +kernel)
theorem k_Nm_15 : Cond.fieldLink "PascalMachine$Names" 15 "PascalMachine$Names" "kinds" "[I" ∈ gt := gtm 78 (by decide +kernel) (by decide +kernel)
theorem k_Nm_19 : Cond.fieldLink "PascalMachine$Names" 19 "PascalMachine$Names" "levels" "[I" ∈ gt := gtm 79 (by decide +kernel) (by decide +kernel)
theorem k_Nm_22 : Cond.fieldLink "PascalMachine$Names" 22 "PascalMachine$Names" "numbers" "[I" ∈ gt := gtm 80 (by decide +kernel) (by decide +kernel)
theorem k_Nm_25 : Cond.fieldLink "PascalMachine$Names" 25 "PascalMachine$Names" "slots" "[I" ∈ gt := gtm 81 (by decide +kernel) (by decide +kernel)
theorem k_Nm_28 : Cond.fieldLink "PascalMachine$Names" 28 "PascalMachine$Names" "known" "I" ∈ gt := gtm 82 (by decide +kernel) (by decide +kernel)
theorem k_Nm_32 : Cond.fieldLink "PascalMachine$Names" 32 "PascalMachine$Names" "level" "I" ∈ gt := gtm 83 (by decide +kernel) (by decide +kernel)
theorem k_Nm_35 : Cond.fieldLink "PascalMachine$Names" 35 "PascalMachine$Names" "variables" "I" ∈ gt := gtm 84 (by decide +kernel) (by decide +kernel)
theorem k_Nm_38 : Cond.fieldLink "PascalMachine$Names" 38 "PascalMachine$Names" "procedures" "I" ∈ gt := gtm 85 (by decide +kernel) (by decide +kernel)
theorem k_Cp_25 : Cond.classLink "PascalMachine$Compiler" 25 "PascalMachine$Code" ∈ gt := gtm 105 (by decide +kernel) (by decide +kernel)
theorem k_Co_3 : Cond.methodLink "PascalMachine$Code" 3 ⟨"java/lang/Object", "<init>", "()V"⟩ ∈ gt := gtm 110 (by decide +kernel) (by decide +kernel)
theorem k_Co_11 : Cond.fieldLink "PascalMachine$Code" 11 "PascalMachine$Code" "operations" "[I" ∈ gt := gtm 111 (by decide +kernel) (by decide +kernel)
theorem k_Mc_63 : Cond.fieldLink "PascalMachine$Machine" 63 "PascalMachine$Code" "operations" "[I" ∈ gt := gtm 112 (by decide +kernel) (by decide +kernel)
theorem k_Co_15 : Cond.fieldLink "PascalMachine$Code" 15 "PascalMachine$Code" "firsts" "[I" ∈ gt := gtm 113 (by decide +kernel) (by decide +kernel)
theorem k_Mc_66 : Cond.fieldLink "PascalMachine$Machine" 66 "PascalMachine$Code" "firsts" "[I" ∈ gt := gtm 114 (by decide +kernel) (by decide +kernel)
theorem k_Co_18 : Cond.fieldLink "PascalMachine$Code" 18 "PascalMachine$Code" "seconds" "[I" ∈ gt := gtm 115 (by decide +kernel) (by decide +kernel)
theorem k_Mc_69 : Cond.fieldLink "PascalMachine$Machine" 69 "PascalMachine$Code" "seconds" "[I" ∈ gt := gtm 116 (by decide +kernel) (by decide +kernel)
theorem k_Co_21 : Cond.fieldLink "PascalMachine$Code" 21 "PascalMachine$Code" "entries" "[I" ∈ gt := gtm 117 (by decide +kernel) (by decide +kernel)
theorem k_Cp_151 : Cond.fieldLink "PascalMachine$Compiler" 151 "PascalMachine$Code" "entries" "[I" ∈ gt := gtm 118 (by decide +kernel) (by decide +kernel)
theorem k_Mc_149 : Cond.fieldLink "PascalMachine$Machine" 149 "PascalMachine$Code" "entries" "[I" ∈ gt := gtm 119 (by decide +kernel) (by decide +kernel)
theorem k_Co_24 : Cond.fieldLink "PascalMachine$Code" 24 "PascalMachine$Code" "parameters" "[I" ∈ gt := gtm 120 (by decide +kernel) (by decide +kernel)
theorem k_Cp_136 : Cond.fieldLink "PascalMachine$Compiler" 136 "PascalMachine$Code" "parameters" "[I" ∈ gt := gtm 121 (by decide +kernel) (by decide +kernel)
theorem k_Mc_146 : Cond.fieldLink "PascalMachine$Machine" 146 "PascalMachine$Code" "parameters" "[I" ∈ gt := gtm 122 (by decide +kernel) (by decide +kernel)
theorem k_Co_27 : Cond.fieldLink "PascalMachine$Code" 27 "PascalMachine$Code" "references" "[I" ∈ gt := gtm 123 (by decide +kernel) (by decide +kernel)
theorem k_Cp_140 : Cond.fieldLink "PascalMachine$Compiler" 140 "PascalMachine$Code" "references" "[I" ∈ gt := gtm 124 (by decide +kernel) (by decide +kernel)
theorem k_Co_30 : Cond.fieldLink "PascalMachine$Code" 30 "PascalMachine$Code" "size" "I" ∈ gt := gtm 125 (by decide +kernel) (by decide +kernel)
theorem k_Mc_60 : Cond.fieldLink "PascalMachine$Machine" 60 "PascalMachine$Code" "size" "I" ∈ gt := gtm 126 (by decide +kernel) (by decide +kernel)
theorem k_Cp_43 : Cond.fieldLink "PascalMachine$Compiler" 43 "PascalMachine$Code" "size" "I" ∈ gt := gtm 127 (by decide +kernel) (by decide +kernel)
theorem k_Co_34 : Cond.fieldLink "PascalMachine$Code" 34 "PascalMachine$Code" "start" "I" ∈ gt := gtm 128 (by decide +kernel) (by decide +kernel)
theorem k_Cp_50 : Cond.fieldLink "PascalMachine$Compiler" 50 "PascalMachine$Code" "start" "I" ∈ gt := gtm 129 (by decide +kernel) (by decide +kernel)
theorem k_Mc_76 : Cond.fieldLink "PascalMachine$Machine" 76 "PascalMachine$Code" "start" "I" ∈ gt := gtm 130 (by decide +kernel) (by decide +kernel)
theorem k_Cp_12 : Cond.fieldLink "PascalMachine$Compiler" 12 "PascalMachine$Compiler" "tokens" "LPascalMachine$Tokens;" ∈ gt := gtm 148 (by decide +kernel) (by decide +kernel)
theorem k_Cp_21 : Cond.fieldLink "PascalMachine$Compiler" 21 "PascalMachine$Compiler" "names" "LPascalMachine$Names;" ∈ gt := gtm 149 (by decide +kernel) (by decide +kernel)
theorem k_Cp_28 : Cond.fieldLink "PascalMachine$Compiler" 28 "PascalMachine$Compiler" "code" "LPascalMachine$Code;" ∈ gt := gtm 150 (by decide +kernel) (by decide +kernel)
theorem k_PM_57 : Cond.fieldLink "PascalMachine" 57 "PascalMachine$Compiler" "code" "LPascalMachine$Code;" ∈ gt := gtm 151 (by decide +kernel) (by decide +kernel)
theorem k_Cp_32 : Cond.fieldLink "PascalMachine$Compiler" 32 "PascalMachine$Compiler" "faultPlace" "I" ∈ gt := gtm 152 (by decide +kernel) (by decide +kernel)
theorem k_PM_60 : Cond.fieldLink "PascalMachine" 60 "PascalMachine$Compiler" "faultPlace" "I" ∈ gt := gtm 153 (by decide +kernel) (by decide +kernel)
theorem k_PM_24 : Cond.classLink "PascalMachine" 24 "PascalMachine$Machine" ∈ gt := gtm 163 (by decide +kernel) (by decide +kernel)
theorem k_Mc_5 : Cond.methodLink "PascalMachine$Machine" 5 ⟨"java/lang/Object", "<init>", "()V"⟩ ∈ gt := gtm 168 (by decide +kernel) (by decide +kernel)
theorem k_Mc_11 : Cond.classLink "PascalMachine$Machine" 11 "PascalMachine$Code" ∈ gt := gtm 169 (by decide +kernel) (by decide +kernel)
theorem k_Mc_14 : Cond.fieldLink "PascalMachine$Machine" 14 "PascalMachine$Machine" "program" "LPascalMachine$Code;" ∈ gt := gtm 171 (by decide +kernel) (by decide +kernel)
theorem k_PM_53 : Cond.fieldLink "PascalMachine" 53 "PascalMachine$Machine" "program" "LPascalMachine$Code;" ∈ gt := gtm 172 (by decide +kernel) (by decide +kernel)
theorem k_Mc_18 : Cond.fieldLink "PascalMachine$Machine" 18 "PascalMachine$Machine" "cells" "[I" ∈ gt := gtm 173 (by decide +kernel) (by decide +kernel)
theorem k_Mc_22 : Cond.fieldLink "PascalMachine$Machine" 22 "PascalMachine$Machine" "outerFrames" "[I" ∈ gt := gtm 174 (by decide +kernel) (by decide +kernel)
theorem k_Mc_25 : Cond.fieldLink "PascalMachine$Machine" 25 "PascalMachine$Machine" "returns" "[I" ∈ gt := gtm 175 (by decide +kernel) (by decide +kernel)
theorem k_Mc_28 : Cond.fieldLink "PascalMachine$Machine" 28 "PascalMachine$Machine" "stack" "[I" ∈ gt := gtm 176 (by decide +kernel) (by decide +kernel)
theorem k_Mc_31 : Cond.fieldLink "PascalMachine$Machine" 31 "PascalMachine$Machine" "top" "I" ∈ gt := gtm 177 (by decide +kernel) (by decide +kernel)
theorem k_Mc_35 : Cond.fieldLink "PascalMachine$Machine" 35 "PascalMachine$Machine" "depth" "I" ∈ gt := gtm 178 (by decide +kernel) (by decide +kernel)
theorem k_Mc_38 : Cond.fieldLink "PascalMachine$Machine" 38 "PascalMachine$Machine" "next" "I" ∈ gt := gtm 179 (by decide +kernel) (by decide +kernel)
theorem k_Mc_41 : Cond.fieldLink "PascalMachine$Machine" 41 "PascalMachine$Machine" "values" "[I" ∈ gt := gtm 180 (by decide +kernel) (by decide +kernel)
theorem k_PM_72 : Cond.fieldLink "PascalMachine" 72 "PascalMachine$Machine" "values" "[I" ∈ gt := gtm 181 (by decide +kernel) (by decide +kernel)
theorem k_Mc_44 : Cond.fieldLink "PascalMachine$Machine" 44 "PascalMachine$Machine" "written" "I" ∈ gt := gtm 182 (by decide +kernel) (by decide +kernel)
theorem k_PM_69 : Cond.fieldLink "PascalMachine" 69 "PascalMachine$Machine" "written" "I" ∈ gt := gtm 183 (by decide +kernel) (by decide +kernel)
theorem k_Mc_47 : Cond.fieldLink "PascalMachine$Machine" 47 "PascalMachine$Machine" "lost" "I" ∈ gt := gtm 184 (by decide +kernel) (by decide +kernel)
theorem k_PM_76 : Cond.fieldLink "PascalMachine" 76 "PascalMachine$Machine" "lost" "I" ∈ gt := gtm 185 (by decide +kernel) (by decide +kernel)
theorem k_Mc_50 : Cond.fieldLink "PascalMachine$Machine" 50 "PascalMachine$Machine" "steps" "I" ∈ gt := gtm 186 (by decide +kernel) (by decide +kernel)
theorem k_PM_79 : Cond.fieldLink "PascalMachine" 79 "PascalMachine$Machine" "steps" "I" ∈ gt := gtm 187 (by decide +kernel) (by decide +kernel)
theorem k_Mc_53 : Cond.fieldLink "PascalMachine$Machine" 53 "PascalMachine$Machine" "deepest" "I" ∈ gt := gtm 188 (by decide +kernel) (by decide +kernel)
theorem k_PM_82 : Cond.fieldLink "PascalMachine" 82 "PascalMachine$Machine" "deepest" "I" ∈ gt := gtm 189 (by decide +kernel) (by decide +kernel)
theorem k_PM_9 : Cond.fieldLink "PascalMachine" 9 "PascalMachine" "text" "[C" ∈ gt := gtm 217 (by decide +kernel) (by decide +kernel)
theorem k_PM_13 : Cond.fieldLink "PascalMachine" 13 "PascalMachine" "length" "I" ∈ gt := gtm 218 (by decide +kernel) (by decide +kernel)
theorem k_PM_20 : Cond.fieldLink "PascalMachine" 20 "PascalMachine" "compiler" "LPascalMachine$Compiler;" ∈ gt := gtm 219 (by decide +kernel) (by decide +kernel)
theorem k_PM_27 : Cond.fieldLink "PascalMachine" 27 "PascalMachine" "machine" "LPascalMachine$Machine;" ∈ gt := gtm 220 (by decide +kernel) (by decide +kernel)
theorem k_PM_31 : Cond.fieldLink "PascalMachine" 31 "PascalMachine" "hasProgram" "Z" ∈ gt := gtm 221 (by decide +kernel) (by decide +kernel)
theorem k_PM_35 : Cond.methodLink "PascalMachine" 35 ⟨"PascalMachine", "hasOnlyCodes", "(JI)Z"⟩ ∈ gt := gtm 246 (by decide +kernel) (by decide +kernel)
theorem k_PM_45 : Cond.methodLink "PascalMachine" 45 ⟨"PascalMachine", "byteAt", "(JI)I"⟩ ∈ gt := gtm 249 (by decide +kernel) (by decide +kernel)
theorem k_PM_39 : Cond.classLink "PascalMachine" 39 "java/lang/IllegalArgumentException" ∈ gt := gtm 252 (by decide +kernel) (by decide +kernel)
theorem k_PM_41 : Cond.methodLink "PascalMachine" 41 ⟨"java/lang/IllegalArgumentException", "<init>", "()V"⟩ ∈ gt := gtm 295 (by decide +kernel) (by decide +kernel)
theorem k_PM_42 : Cond.classLink "PascalMachine" 42 "java/lang/IllegalStateException" ∈ gt := gtm 317 (by decide +kernel) (by decide +kernel)
theorem k_PM_44 : Cond.methodLink "PascalMachine" 44 ⟨"java/lang/IllegalStateException", "<init>", "()V"⟩ ∈ gt := gtm 326 (by decide +kernel) (by decide +kernel)
theorem k_PM_49 : Cond.methodLink "PascalMachine" 49 ⟨"PascalMachine$Compiler", "translate", "([CI)I"⟩ ∈ gt := gtm 346 (by decide +kernel) (by decide +kernel)
theorem k_Cp_36 : Cond.methodLink "PascalMachine$Compiler" 36 ⟨"PascalMachine$Tokens", "read", "([CI)V"⟩ ∈ gt := gtm 350 (by decide +kernel) (by decide +kernel)
theorem k_Tk_39 : Cond.methodLink "PascalMachine$Tokens" 39 ⟨"PascalMachine$Tokens", "readToken", "(I)LPascalMachine$Kind;"⟩ ∈ gt := gtm 354 (by decide +kernel) (by decide +kernel)
theorem k_Tk_50 : Cond.methodLink "PascalMachine$Tokens" 50 ⟨"PascalMachine$Tokens", "behindBlanks", "()I"⟩ ∈ gt := gtm 358 (by decide +kernel) (by decide +kernel)
theorem k_Tk_43 : Cond.fieldLink "PascalMachine$Tokens" 43 "PascalMachine$Kind" "NOTHING" "LPascalMachine$Kind;" ∈ gt := gtm 362 (by decide +kernel) (by decide +kernel)
theorem k_Tk_47 : Cond.fieldLink "PascalMachine$Tokens" 47 "PascalMachine$Kind" "NO_TOKEN" "LPascalMachine$Kind;" ∈ gt := gtm 364 (by decide +kernel) (by decide +kernel)
theorem k_Tk_54 : Cond.methodLink "PascalMachine$Tokens" 54 ⟨"PascalMachine$Tokens", "isLetter", "(C)Z"⟩ ∈ gt := gtm 366 (by decide +kernel) (by decide +kernel)
theorem k_Tk_58 : Cond.methodLink "PascalMachine$Tokens" 58 ⟨"PascalMachine$Tokens", "readWord", "(II)LPascalMachine$Kind;"⟩ ∈ gt := gtm 369 (by decide +kernel) (by decide +kernel)
theorem k_Tk_62 : Cond.methodLink "PascalMachine$Tokens" 62 ⟨"PascalMachine$Tokens", "isDigit", "(C)Z"⟩ ∈ gt := gtm 373 (by decide +kernel) (by decide +kernel)
theorem k_Tk_71 : Cond.fieldLink "PascalMachine$Tokens" 71 "PascalMachine$Kind" "NAME" "LPascalMachine$Kind;" ∈ gt := gtm 376 (by decide +kernel) (by decide +kernel)
theorem k_Tk_74 : Cond.methodLink "PascalMachine$Tokens" 74 ⟨"PascalMachine$Tokens", "kindSpelled", "(ILPascalMachine$Kind;)LPascalMachine$Kind;"⟩ ∈ gt := gtm 378 (by decide +kernel) (by decide +kernel)
theorem k_Tk_89 : Cond.fieldLink "PascalMachine$Tokens" 89 "PascalMachine$Tokens" "KINDS" "[LPascalMachine$Kind;" ∈ gt := gtm 382 (by decide +kernel) (by decide +kernel)
theorem k_Tk_96 : Cond.methodLink "PascalMachine$Tokens" 96 ⟨"PascalMachine$Tokens", "isSpelled", "(ILjava/lang/String;)Z"⟩ ∈ gt := gtm 384 (by decide +kernel) (by decide +kernel)
theorem k_Tk_100 : Cond.methodLink "PascalMachine$Tokens" 100 ⟨"java/lang/String", "length", "()I"⟩ ∈ gt := gtm 388 (by decide +kernel) (by decide +kernel)
theorem k_JS_335 : Cond.methodLink "java/lang/String" 335 ⟨"java/lang/String", "coder", "()B"⟩ ∈ gt := gtm 392 (by decide +kernel) (by decide +kernel)
theorem k_JS_38 : Cond.fieldLink "java/lang/String" 38 "java/lang/String" "COMPACT_STRINGS" "Z" ∈ gt := gtm 396 (by decide +kernel) (by decide +kernel)
theorem k_Tk_104 : Cond.methodLink "PascalMachine$Tokens" 104 ⟨"java/lang/String", "charAt", "(I)C"⟩ ∈ gt := gtm 398 (by decide +kernel) (by decide +kernel)
theorem k_JS_492 : Cond.methodLink "java/lang/String" 492 ⟨"java/lang/String", "isLatin1", "()Z"⟩ ∈ gt := gtm 402 (by decide +kernel) (by decide +kernel)
theorem k_JS_495 : Cond.methodLink "java/lang/String" 495 ⟨"java/lang/StringLatin1", "charAt", "([BI)C"⟩ ∈ gt := gtm 406 (by decide +kernel) (by decide +kernel)
theorem k_JL_9 : Cond.methodLink "java/lang/StringLatin1" 9 ⟨"java/lang/String", "checkIndex", "(II)V"⟩ ∈ gt := gtm 409 (by decide +kernel) (by decide +kernel)
theorem k_JS_1053 : Cond.fieldLink "java/lang/String" 1053 "jdk/internal/util/Preconditions" "SIOOBE_FORMATTER" "Ljava/util/function/BiFunction;" ∈ gt := gtm 412 (by decide +kernel) (by decide +kernel)
theorem k_JS_1059 : Cond.methodLink "java/lang/String" 1059 ⟨"jdk/internal/util/Preconditions", "checkIndex", "(IILjava/util/function/BiFunction;)I"⟩ ∈ gt := gtm 414 (by decide +kernel) (by decide +kernel)
theorem k_JS_498 : Cond.methodLink "java/lang/String" 498 ⟨"java/lang/StringUTF16", "charAt", "([BI)C"⟩ ∈ gt := gtm 417 (by decide +kernel) (by decide +kernel)
theorem k_Tk_65 : Cond.methodLink "PascalMachine$Tokens" 65 ⟨"PascalMachine$Tokens", "readNumber", "(II)LPascalMachine$Kind;"⟩ ∈ gt := gtm 436 (by decide +kernel) (by decide +kernel)
theorem k_Tk_78 : Cond.constantLong "PascalMachine$Tokens" 78 10 ∈ gt := gtm 440 (by decide +kernel) (by decide +kernel)
theorem k_Tk_80 : Cond.fieldLink "PascalMachine$Tokens" 80 "PascalMachine$Kind" "NUMBER" "LPascalMachine$Kind;" ∈ gt := gtm 441 (by decide +kernel) (by decide +kernel)
theorem k_Tk_68 : Cond.methodLink "PascalMachine$Tokens" 68 ⟨"PascalMachine$Tokens", "readSign", "(I)LPascalMachine$Kind;"⟩ ∈ gt := gtm 443 (by decide +kernel) (by decide +kernel)
theorem k_Tk_83 : Cond.methodLink "PascalMachine$Tokens" 83 ⟨"java/lang/Math", "min", "(II)I"⟩ ∈ gt := gtm 447 (by decide +kernel) (by decide +kernel)
theorem k_Cp_40 : Cond.methodLink "PascalMachine$Compiler" 40 ⟨"PascalMachine$Names", "clear", "()V"⟩ ∈ gt := gtm 450 (by decide +kernel) (by decide +kernel)
theorem k_Cp_46 : Cond.methodLink "PascalMachine$Compiler" 46 ⟨"PascalMachine$Compiler", "block", "(I)I"⟩ ∈ gt := gtm 454 (by decide +kernel) (by decide +kernel)
theorem k_Cp_102 : Cond.fieldLink "PascalMachine$Compiler" 102 "PascalMachine$Kind" "VAR" "LPascalMachine$Kind;" ∈ gt := gtm 458 (by decide +kernel) (by decide +kernel)
theorem k_Cp_84 : Cond.methodLink "PascalMachine$Compiler" 84 ⟨"PascalMachine$Tokens", "accept", "(LPascalMachine$Kind;)Z"⟩ ∈ gt := gtm 460 (by decide +kernel) (by decide +kernel)
theorem k_Tk_108 : Cond.methodLink "PascalMachine$Tokens" 108 ⟨"PascalMachine$Tokens", "advance", "()V"⟩ ∈ gt := gtm 464 (by decide +kernel) (by decide +kernel)
theorem k_Cp_105 : Cond.methodLink "PascalMachine$Compiler" 105 ⟨"PascalMachine$Compiler", "variables", "()V"⟩ ∈ gt := gtm 468 (by decide +kernel) (by decide +kernel)
theorem k_Cp_124 : Cond.methodLink "PascalMachine$Compiler" 124 ⟨"PascalMachine$Compiler", "declareName", "(I)V"⟩ ∈ gt := gtm 472 (by decide +kernel) (by decide +kernel)
theorem k_Cp_63 : Cond.methodLink "PascalMachine$Compiler" 63 ⟨"PascalMachine$Tokens", "kind", "()LPascalMachine$Kind;"⟩ ∈ gt := gtm 476 (by decide +kernel) (by decide +kernel)
theorem k_Cp_88 : Cond.fieldLink "PascalMachine$Compiler" 88 "PascalMachine$Kind" "NAME" "LPascalMachine$Kind;" ∈ gt := gtm 480 (by decide +kernel) (by decide +kernel)
theorem k_Cp_91 : Cond.methodLink "PascalMachine$Compiler" 91 ⟨"PascalMachine$Tokens", "content", "()J"⟩ ∈ gt := gtm 481 (by decide +kernel) (by decide +kernel)
theorem k_Cp_95 : Cond.methodLink "PascalMachine$Compiler" 95 ⟨"PascalMachine$Names", "declare", "(JI)Z"⟩ ∈ gt := gtm 485 (by decide +kernel) (by decide +kernel)
theorem k_Nm_41 : Cond.methodLink "PascalMachine$Names" 41 ⟨"PascalMachine$Names", "find", "(J)I"⟩ ∈ gt := gtm 489 (by decide +kernel) (by decide +kernel)
theorem k_Nm_45 : Cond.methodLink "PascalMachine$Names" 45 ⟨"PascalMachine$Names", "isFull", "(I)Z"⟩ ∈ gt := gtm 493 (by decide +kernel) (by decide +kernel)
theorem k_Cp_70 : Cond.methodLink "PascalMachine$Compiler" 70 ⟨"PascalMachine$Tokens", "place", "()I"⟩ ∈ gt := gtm 497 (by decide +kernel) (by decide +kernel)
theorem k_Cp_74 : Cond.methodLink "PascalMachine$Compiler" 74 ⟨"PascalMachine$Compiler", "refuse", "(I)V"⟩ ∈ gt := gtm 501 (by decide +kernel) (by decide +kernel)
theorem k_Cp_81 : Cond.classLink "PascalMachine$Compiler" 81 "java/lang/IllegalArgumentException" ∈ gt := gtm 505 (by decide +kernel) (by decide +kernel)
theorem k_Cp_83 : Cond.methodLink "PascalMachine$Compiler" 83 ⟨"java/lang/IllegalArgumentException", "<init>", "()V"⟩ ∈ gt := gtm 506 (by decide +kernel) (by decide +kernel)
theorem k_Cp_99 : Cond.methodLink "PascalMachine$Compiler" 99 ⟨"PascalMachine$Tokens", "advance", "()V"⟩ ∈ gt := gtm 507 (by decide +kernel) (by decide +kernel)
theorem k_Cp_127 : Cond.fieldLink "PascalMachine$Compiler" 127 "PascalMachine$Kind" "COMMA" "LPascalMachine$Kind;" ∈ gt := gtm 508 (by decide +kernel) (by decide +kernel)
theorem k_Cp_130 : Cond.fieldLink "PascalMachine$Compiler" 130 "PascalMachine$Kind" "SEMICOLON" "LPascalMachine$Kind;" ∈ gt := gtm 510 (by decide +kernel) (by decide +kernel)
theorem k_Cp_59 : Cond.methodLink "PascalMachine$Compiler" 59 ⟨"PascalMachine$Compiler", "expect", "(LPascalMachine$Kind;)V"⟩ ∈ gt := gtm 512 (by decide +kernel) (by decide +kernel)
theorem k_Cp_108 : Cond.fieldLink "PascalMachine$Compiler" 108 "PascalMachine$Kind" "PROC" "LPascalMachine$Kind;" ∈ gt := gtm 516 (by decide +kernel) (by decide +kernel)
theorem k_Cp_111 : Cond.methodLink "PascalMachine$Compiler" 111 ⟨"PascalMachine$Compiler", "procedure", "(I)V"⟩ ∈ gt := gtm 518 (by decide +kernel) (by decide +kernel)
theorem k_Cp_133 : Cond.methodLink "PascalMachine$Compiler" 133 ⟨"PascalMachine$Names", "lastProcedure", "()I"⟩ ∈ gt := gtm 522 (by decide +kernel) (by decide +kernel)
theorem k_Cp_143 : Cond.methodLink "PascalMachine$Compiler" 143 ⟨"PascalMachine$Names", "open", "()V"⟩ ∈ gt := gtm 526 (by decide +kernel) (by decide +kernel)
theorem k_Cp_146 : Cond.fieldLink "PascalMachine$Compiler" 146 "PascalMachine$Kind" "OPEN" "LPascalMachine$Kind;" ∈ gt := gtm 530 (by decide +kernel) (by decide +kernel)
theorem k_Cp_149 : Cond.methodLink "PascalMachine$Compiler" 149 ⟨"PascalMachine$Compiler", "parameters", "(I)V"⟩ ∈ gt := gtm 532 (by decide +kernel) (by decide +kernel)
theorem k_Cp_157 : Cond.methodLink "PascalMachine$Compiler" 157 ⟨"PascalMachine$Compiler", "parameter", "(I)V"⟩ ∈ gt := gtm 536 (by decide +kernel) (by decide +kernel)
theorem k_Cp_163 : Cond.fieldLink "PascalMachine$Compiler" 163 "PascalMachine$Kind" "AT" "LPascalMachine$Kind;" ∈ gt := gtm 540 (by decide +kernel) (by decide +kernel)
theorem k_Cp_160 : Cond.fieldLink "PascalMachine$Compiler" 160 "PascalMachine$Kind" "CLOSE" "LPascalMachine$Kind;" ∈ gt := gtm 542 (by decide +kernel) (by decide +kernel)
theorem k_Cp_154 : Cond.methodLink "PascalMachine$Compiler" 154 ⟨"PascalMachine$Names", "close", "()V"⟩ ∈ gt := gtm 544 (by decide +kernel) (by decide +kernel)
theorem k_Cp_114 : Cond.fieldLink "PascalMachine$Compiler" 114 "PascalMachine$Kind" "BEGIN" "LPascalMachine$Kind;" ∈ gt := gtm 548 (by decide +kernel) (by decide +kernel)
theorem k_Cp_117 : Cond.methodLink "PascalMachine$Compiler" 117 ⟨"PascalMachine$Compiler", "statements", "(I)V"⟩ ∈ gt := gtm 550 (by decide +kernel) (by decide +kernel)
theorem k_Cp_166 : Cond.methodLink "PascalMachine$Compiler" 166 ⟨"PascalMachine$Compiler", "statement", "(I)V"⟩ ∈ gt := gtm 554 (by decide +kernel) (by decide +kernel)
theorem k_Cp_172 : Cond.fieldLink "PascalMachine$Compiler" 172 "PascalMachine$1" "$SwitchMap$PascalMachine$Kind" "[I" ∈ gt := gtm 558 (by decide +kernel) (by decide +kernel)
theorem k_Cp_177 : Cond.methodLink "PascalMachine$Compiler" 177 ⟨"PascalMachine$Kind", "ordinal", "()I"⟩ ∈ gt := gtm 560 (by decide +kernel) (by decide +kernel)
theorem k_Cp_180 : Cond.fieldLink "PascalMachine$Compiler" 180 "PascalMachine$Kind" "ASSIGN" "LPascalMachine$Kind;" ∈ gt := gtm 566 (by decide +kernel) (by decide +kernel)
theorem k_Cp_183 : Cond.methodLink "PascalMachine$Compiler" 183 ⟨"PascalMachine$Tokens", "isBefore", "(LPascalMachine$Kind;)Z"⟩ ∈ gt := gtm 568 (by decide +kernel) (by decide +kernel)
theorem k_Cp_186 : Cond.methodLink "PascalMachine$Compiler" 186 ⟨"PascalMachine$Compiler", "assignment", "()V"⟩ ∈ gt := gtm 572 (by decide +kernel) (by decide +kernel)
theorem k_Cp_204 : Cond.methodLink "PascalMachine$Compiler" 204 ⟨"PascalMachine$Names", "find", "(J)I"⟩ ∈ gt := gtm 576 (by decide +kernel) (by decide +kernel)
theorem k_Cp_208 : Cond.methodLink "PascalMachine$Compiler" 208 ⟨"PascalMachine$Names", "isProcedure", "(I)Z"⟩ ∈ gt := gtm 577 (by decide +kernel) (by decide +kernel)
theorem k_Cp_120 : Cond.methodLink "PascalMachine$Compiler" 120 ⟨"PascalMachine$Code", "add", "(III)I"⟩ ∈ gt := gtm 581 (by decide +kernel) (by decide +kernel)
theorem k_Cp_212 : Cond.methodLink "PascalMachine$Compiler" 212 ⟨"PascalMachine$Compiler", "expression", "(I)V"⟩ ∈ gt := gtm 585 (by decide +kernel) (by decide +kernel)
theorem k_Cp_251 : Cond.fieldLink "PascalMachine$Compiler" 251 "PascalMachine$Kind" "MINUS" "LPascalMachine$Kind;" ∈ gt := gtm 589 (by decide +kernel) (by decide +kernel)
theorem k_Cp_254 : Cond.methodLink "PascalMachine$Compiler" 254 ⟨"PascalMachine$Compiler", "term", "(I)V"⟩ ∈ gt := gtm 591 (by decide +kernel) (by decide +kernel)
theorem k_Cp_260 : Cond.methodLink "PascalMachine$Compiler" 260 ⟨"PascalMachine$Compiler", "factor", "(I)V"⟩ ∈ gt := gtm 595 (by decide +kernel) (by decide +kernel)
theorem k_Cp_266 : Cond.methodLink "PascalMachine$Compiler" 266 ⟨"PascalMachine$Compiler", "variable", "()V"⟩ ∈ gt := gtm 599 (by decide +kernel) (by decide +kernel)
theorem k_Cp_215 : Cond.methodLink "PascalMachine$Compiler" 215 ⟨"PascalMachine$Names", "isReference", "(I)Z"⟩ ∈ gt := gtm 603 (by decide +kernel) (by decide +kernel)
theorem k_Cp_218 : Cond.methodLink "PascalMachine$Compiler" 218 ⟨"PascalMachine$Names", "hops", "(I)I"⟩ ∈ gt := gtm 607 (by decide +kernel) (by decide +kernel)
theorem k_Cp_221 : Cond.methodLink "PascalMachine$Compiler" 221 ⟨"PascalMachine$Names", "number", "(I)I"⟩ ∈ gt := gtm 611 (by decide +kernel) (by decide +kernel)
theorem k_Cp_263 : Cond.methodLink "PascalMachine$Compiler" 263 ⟨"PascalMachine$Compiler", "multiplication", "()I"⟩ ∈ gt := gtm 615 (by decide +kernel) (by decide +kernel)
theorem k_Cp_257 : Cond.fieldLink "PascalMachine$Compiler" 257 "PascalMachine$Kind" "PLUS" "LPascalMachine$Kind;" ∈ gt := gtm 619 (by decide +kernel) (by decide +kernel)
theorem k_Cp_189 : Cond.methodLink "PascalMachine$Compiler" 189 ⟨"PascalMachine$Compiler", "procedureCall", "()V"⟩ ∈ gt := gtm 621 (by decide +kernel) (by decide +kernel)
theorem k_Cp_224 : Cond.methodLink "PascalMachine$Compiler" 224 ⟨"PascalMachine$Compiler", "arguments", "(I)I"⟩ ∈ gt := gtm 625 (by decide +kernel) (by decide +kernel)
theorem k_Cp_227 : Cond.methodLink "PascalMachine$Compiler" 227 ⟨"PascalMachine$Code", "isReference", "(II)Z"⟩ ∈ gt := gtm 629 (by decide +kernel) (by decide +kernel)
theorem k_Cp_230 : Cond.methodLink "PascalMachine$Compiler" 230 ⟨"PascalMachine$Code", "takeAddress", "(I)V"⟩ ∈ gt := gtm 633 (by decide +kernel) (by decide +kernel)
theorem k_Cp_192 : Cond.methodLink "PascalMachine$Compiler" 192 ⟨"PascalMachine$Compiler", "goDeeper", "(I)V"⟩ ∈ gt := gtm 637 (by decide +kernel) (by decide +kernel)
theorem k_Cp_195 : Cond.methodLink "PascalMachine$Compiler" 195 ⟨"PascalMachine$Compiler", "ifStatement", "(I)V"⟩ ∈ gt := gtm 641 (by decide +kernel) (by decide +kernel)
theorem k_Cp_233 : Cond.methodLink "PascalMachine$Compiler" 233 ⟨"PascalMachine$Compiler", "condition", "()I"⟩ ∈ gt := gtm 645 (by decide +kernel) (by decide +kernel)
theorem k_Cp_248 : Cond.methodLink "PascalMachine$Compiler" 248 ⟨"PascalMachine$Compiler", "comparison", "()I"⟩ ∈ gt := gtm 649 (by decide +kernel) (by decide +kernel)
theorem k_Cp_236 : Cond.fieldLink "PascalMachine$Compiler" 236 "PascalMachine$Kind" "THEN" "LPascalMachine$Kind;" ∈ gt := gtm 653 (by decide +kernel) (by decide +kernel)
theorem k_Cp_239 : Cond.fieldLink "PascalMachine$Compiler" 239 "PascalMachine$Kind" "ELSE" "LPascalMachine$Kind;" ∈ gt := gtm 655 (by decide +kernel) (by decide +kernel)
theorem k_Cp_242 : Cond.methodLink "PascalMachine$Compiler" 242 ⟨"PascalMachine$Code", "jumpToEnd", "(I)V"⟩ ∈ gt := gtm 657 (by decide +kernel) (by decide +kernel)
theorem k_Cp_198 : Cond.methodLink "PascalMachine$Compiler" 198 ⟨"PascalMachine$Compiler", "whileStatement", "(I)V"⟩ ∈ gt := gtm 661 (by decide +kernel) (by decide +kernel)
theorem k_Cp_245 : Cond.fieldLink "PascalMachine$Compiler" 245 "PascalMachine$Kind" "DO" "LPascalMachine$Kind;" ∈ gt := gtm 665 (by decide +kernel) (by decide +kernel)
theorem k_Cp_201 : Cond.methodLink "PascalMachine$Compiler" 201 ⟨"PascalMachine$Compiler", "writeStatement", "()V"⟩ ∈ gt := gtm 667 (by decide +kernel) (by decide +kernel)
theorem k_Cp_169 : Cond.fieldLink "PascalMachine$Compiler" 169 "PascalMachine$Kind" "END" "LPascalMachine$Kind;" ∈ gt := gtm 671 (by decide +kernel) (by decide +kernel)
theorem k_Cp_53 : Cond.fieldLink "PascalMachine$Compiler" 53 "PascalMachine$Kind" "DOT" "LPascalMachine$Kind;" ∈ gt := gtm 673 (by decide +kernel) (by decide +kernel)
theorem k_Cp_67 : Cond.fieldLink "PascalMachine$Compiler" 67 "PascalMachine$Kind" "NOTHING" "LPascalMachine$Kind;" ∈ gt := gtm 675 (by decide +kernel) (by decide +kernel)
theorem k_Cp_78 : Cond.methodLink "PascalMachine$Compiler" 78 ⟨"PascalMachine$Names", "declared", "()I"⟩ ∈ gt := gtm 676 (by decide +kernel) (by decide +kernel)
theorem k_PM_63 : Cond.classLink "PascalMachine" 63 "java/util/NoSuchElementException" ∈ gt := gtm 690 (by decide +kernel) (by decide +kernel)
theorem k_PM_65 : Cond.methodLink "PascalMachine" 65 ⟨"java/util/NoSuchElementException", "<init>", "()V"⟩ ∈ gt := gtm 699 (by decide +kernel) (by decide +kernel)
theorem k_PM_66 : Cond.methodLink "PascalMachine" 66 ⟨"PascalMachine$Machine", "execute", "()V"⟩ ∈ gt := gtm 705 (by decide +kernel) (by decide +kernel)
theorem k_Mc_56 : Cond.methodLink "PascalMachine$Machine" 56 ⟨"PascalMachine$Machine", "begin", "()V"⟩ ∈ gt := gtm 709 (by decide +kernel) (by decide +kernel)
theorem k_Mc_79 : Cond.methodLink "PascalMachine$Machine" 79 ⟨"PascalMachine$Machine", "clearFrame", "()V"⟩ ∈ gt := gtm 713 (by decide +kernel) (by decide +kernel)
theorem k_Mc_82 : Cond.methodLink "PascalMachine$Machine" 82 ⟨"PascalMachine$Machine", "store", "(II)V"⟩ ∈ gt := gtm 717 (by decide +kernel) (by decide +kernel)
theorem k_Mc_59 : Cond.constant "PascalMachine$Machine" 59 1000000 ∈ gt := gtm 721 (by decide +kernel) (by decide +kernel)
theorem k_Mc_72 : Cond.methodLink "PascalMachine$Machine" 72 ⟨"PascalMachine$Machine", "perform", "(III)V"⟩ ∈ gt := gtm 722 (by decide +kernel) (by decide +kernel)
theorem k_Mc_86 : Cond.methodLink "PascalMachine$Machine" 86 ⟨"PascalMachine$Machine", "takeStep", "()V"⟩ ∈ gt := gtm 726 (by decide +kernel) (by decide +kernel)
theorem k_Mc_120 : Cond.classLink "PascalMachine$Machine" 120 "java/lang/IllegalStateException" ∈ gt := gtm 730 (by decide +kernel) (by decide +kernel)
theorem k_Mc_122 : Cond.methodLink "PascalMachine$Machine" 122 ⟨"java/lang/IllegalStateException", "<init>", "()V"⟩ ∈ gt := gtm 731 (by decide +kernel) (by decide +kernel)
theorem k_Mc_89 : Cond.methodLink "PascalMachine$Machine" 89 ⟨"PascalMachine$Machine", "push", "(I)V"⟩ ∈ gt := gtm 732 (by decide +kernel) (by decide +kernel)
theorem k_Mc_93 : Cond.methodLink "PascalMachine$Machine" 93 ⟨"PascalMachine$Machine", "address", "(II)I"⟩ ∈ gt := gtm 736 (by decide +kernel) (by decide +kernel)
theorem k_Mc_105 : Cond.methodLink "PascalMachine$Machine" 105 ⟨"PascalMachine$Machine", "frameOutward", "(I)I"⟩ ∈ gt := gtm 740 (by decide +kernel) (by decide +kernel)
theorem k_Mc_97 : Cond.methodLink "PascalMachine$Machine" 97 ⟨"PascalMachine$Machine", "load", "(I)I"⟩ ∈ gt := gtm 744 (by decide +kernel) (by decide +kernel)
theorem k_Mc_101 : Cond.methodLink "PascalMachine$Machine" 101 ⟨"PascalMachine$Machine", "pop", "()I"⟩ ∈ gt := gtm 748 (by decide +kernel) (by decide +kernel)
theorem k_Mc_108 : Cond.methodLink "PascalMachine$Machine" 108 ⟨"PascalMachine$Machine", "enter", "(II)V"⟩ ∈ gt := gtm 752 (by decide +kernel) (by decide +kernel)
theorem k_Mc_138 : Cond.classLink "PascalMachine$Machine" 138 "java/lang/IndexOutOfBoundsException" ∈ gt := gtm 756 (by decide +kernel) (by decide +kernel)
theorem k_Mc_140 : Cond.methodLink "PascalMachine$Machine" 140 ⟨"java/lang/IndexOutOfBoundsException", "<init>", "()V"⟩ ∈ gt := gtm 765 (by decide +kernel) (by decide +kernel)
theorem k_Mc_141 : Cond.methodLink "PascalMachine$Machine" 141 ⟨"java/lang/Math", "max", "(II)I"⟩ ∈ gt := gtm 771 (by decide +kernel) (by decide +kernel)
theorem k_Mc_111 : Cond.methodLink "PascalMachine$Machine" 111 ⟨"PascalMachine$Machine", "leave", "()V"⟩ ∈ gt := gtm 774 (by decide +kernel) (by decide +kernel)
theorem k_Mc_114 : Cond.methodLink "PascalMachine$Machine" 114 ⟨"PascalMachine$Machine", "put", "(I)V"⟩ ∈ gt := gtm 778 (by decide +kernel) (by decide +kernel)
theorem k_Mc_117 : Cond.methodLink "PascalMachine$Machine" 117 ⟨"PascalMachine$Machine", "combine", "(I)V"⟩ ∈ gt := gtm 782 (by decide +kernel) (by decide +kernel)
theorem k_Mc_123 : Cond.methodLink "PascalMachine$Machine" 123 ⟨"PascalMachine$Machine", "isTrue", "(III)Z"⟩ ∈ gt := gtm 786 (by decide +kernel) (by decide +kernel)
theorem k_Mc_127 : Cond.methodLink "PascalMachine$Machine" 127 ⟨"PascalMachine$Machine", "calculate", "(III)I"⟩ ∈ gt := gtm 789 (by decide +kernel) (by decide +kernel)
theorem k_Mc_131 : Cond.methodLink "PascalMachine$Machine" 131 ⟨"PascalMachine$Machine", "divide", "(ZII)I"⟩ ∈ gt := gtm 792 (by decide +kernel) (by decide +kernel)
theorem k_Mc_135 : Cond.classLink "PascalMachine$Machine" 135 "java/lang/ArithmeticException" ∈ gt := gtm 795 (by decide +kernel) (by decide +kernel)
theorem k_Mc_137 : Cond.methodLink "PascalMachine$Machine" 137 ⟨"java/lang/ArithmeticException", "<init>", "()V"⟩ ∈ gt := gtm 804 (by decide +kernel) (by decide +kernel)
theorem k_Mo_1 : Cond.methodLink "PascalMachineModel" 1 ⟨"java/lang/Object", "<init>", "()V"⟩ ∈ gt := gtm 829 (by decide +kernel) (by decide +kernel)
theorem k_Mo_132 : Cond.fieldLink "PascalMachineModel" 132 "PascalMachineModel" "thrown" "I" ∈ gt := gtm 830 (by decide +kernel) (by decide +kernel)
theorem k_Mo_7 : Cond.fieldLink "PascalMachineModel" 7 "PascalMachineModel" "text" "[I" ∈ gt := gtm 831 (by decide +kernel) (by decide +kernel)
theorem k_Mo_139 : Cond.fieldLink "PascalMachineModel" 139 "PascalMachineModel" "length" "I" ∈ gt := gtm 832 (by decide +kernel) (by decide +kernel)
theorem k_Mo_13 : Cond.fieldLink "PascalMachineModel" 13 "PascalMachineModel" "kind" "[I" ∈ gt := gtm 833 (by decide +kernel) (by decide +kernel)
theorem k_Mo_16 : Cond.fieldLink "PascalMachineModel" 16 "PascalMachineModel" "word" "[J" ∈ gt := gtm 834 (by decide +kernel) (by decide +kernel)
theorem k_Mo_20 : Cond.fieldLink "PascalMachineModel" 20 "PascalMachineModel" "from" "[I" ∈ gt := gtm 835 (by decide +kernel) (by decide +kernel)
theorem k_Mo_23 : Cond.fieldLink "PascalMachineModel" 23 "PascalMachineModel" "to" "[I" ∈ gt := gtm 836 (by decide +kernel) (by decide +kernel)
theorem k_Mo_26 : Cond.fieldLink "PascalMachineModel" 26 "PascalMachineModel" "means" "[I" ∈ gt := gtm 837 (by decide +kernel) (by decide +kernel)
theorem k_Mo_29 : Cond.fieldLink "PascalMachineModel" 29 "PascalMachineModel" "next" "[I" ∈ gt := gtm 838 (by decide +kernel) (by decide +kernel)
theorem k_Mo_162 : Cond.fieldLink "PascalMachineModel" 162 "PascalMachineModel" "tokens" "I" ∈ gt := gtm 839 (by decide +kernel) (by decide +kernel)
theorem k_Mo_32 : Cond.fieldLink "PascalMachineModel" 32 "PascalMachineModel" "pKind" "[I" ∈ gt := gtm 840 (by decide +kernel) (by decide +kernel)
theorem k_Mo_35 : Cond.fieldLink "PascalMachineModel" 35 "PascalMachineModel" "pWord" "[I" ∈ gt := gtm 841 (by decide +kernel) (by decide +kernel)
theorem k_Mo_38 : Cond.fieldLink "PascalMachineModel" 38 "PascalMachineModel" "pMeans" "[I" ∈ gt := gtm 842 (by decide +kernel) (by decide +kernel)
theorem k_Mo_41 : Cond.fieldLink "PascalMachineModel" 41 "PascalMachineModel" "pNext" "[I" ∈ gt := gtm 843 (by decide +kernel) (by decide +kernel)
theorem k_Mo_284 : Cond.fieldLink "PascalMachineModel" 284 "PascalMachineModel" "program" "Z" ∈ gt := gtm 844 (by decide +kernel) (by decide +kernel)
theorem k_Mo_44 : Cond.fieldLink "PascalMachineModel" 44 "PascalMachineModel" "fault" "I" ∈ gt := gtm 845 (by decide +kernel) (by decide +kernel)
theorem k_Mo_48 : Cond.fieldLink "PascalMachineModel" 48 "PascalMachineModel" "name" "[J" ∈ gt := gtm 846 (by decide +kernel) (by decide +kernel)
theorem k_Mo_51 : Cond.fieldLink "PascalMachineModel" 51 "PascalMachineModel" "sort" "[I" ∈ gt := gtm 847 (by decide +kernel) (by decide +kernel)
theorem k_Mo_54 : Cond.fieldLink "PascalMachineModel" 54 "PascalMachineModel" "home" "[I" ∈ gt := gtm 848 (by decide +kernel) (by decide +kernel)
theorem k_Mo_57 : Cond.fieldLink "PascalMachineModel" 57 "PascalMachineModel" "own" "[I" ∈ gt := gtm 849 (by decide +kernel) (by decide +kernel)
theorem k_Mo_60 : Cond.fieldLink "PascalMachineModel" 60 "PascalMachineModel" "wants" "[I" ∈ gt := gtm 850 (by decide +kernel) (by decide +kernel)
theorem k_Mo_205 : Cond.fieldLink "PascalMachineModel" 205 "PascalMachineModel" "symbols" "I" ∈ gt := gtm 851 (by decide +kernel) (by decide +kernel)
theorem k_Mo_202 : Cond.fieldLink "PascalMachineModel" 202 "PascalMachineModel" "variables" "I" ∈ gt := gtm 852 (by decide +kernel) (by decide +kernel)
theorem k_Mo_199 : Cond.fieldLink "PascalMachineModel" 199 "PascalMachineModel" "procedures" "I" ∈ gt := gtm 853 (by decide +kernel) (by decide +kernel)
theorem k_Mo_63 : Cond.fieldLink "PascalMachineModel" 63 "PascalMachineModel" "around" "[I" ∈ gt := gtm 854 (by decide +kernel) (by decide +kernel)
theorem k_Mo_66 : Cond.fieldLink "PascalMachineModel" 66 "PascalMachineModel" "body" "[I" ∈ gt := gtm 855 (by decide +kernel) (by decide +kernel)
theorem k_Mo_211 : Cond.fieldLink "PascalMachineModel" 211 "PascalMachineModel" "blocks" "I" ∈ gt := gtm 856 (by decide +kernel) (by decide +kernel)
theorem k_Mo_208 : Cond.fieldLink "PascalMachineModel" 208 "PascalMachineModel" "block" "I" ∈ gt := gtm 857 (by decide +kernel) (by decide +kernel)
theorem k_Mo_69 : Cond.fieldLink "PascalMachineModel" 69 "PascalMachineModel" "pSort" "[I" ∈ gt := gtm 858 (by decide +kernel) (by decide +kernel)
theorem k_Mo_72 : Cond.fieldLink "PascalMachineModel" 72 "PascalMachineModel" "pHome" "[I" ∈ gt := gtm 859 (by decide +kernel) (by decide +kernel)
theorem k_Mo_75 : Cond.fieldLink "PascalMachineModel" 75 "PascalMachineModel" "pOwn" "[I" ∈ gt := gtm 860 (by decide +kernel) (by decide +kernel)
theorem k_Mo_78 : Cond.fieldLink "PascalMachineModel" 78 "PascalMachineModel" "pWants" "[I" ∈ gt := gtm 861 (by decide +kernel) (by decide +kernel)
theorem k_Mo_81 : Cond.fieldLink "PascalMachineModel" 81 "PascalMachineModel" "pBody" "[I" ∈ gt := gtm 862 (by decide +kernel) (by decide +kernel)
theorem k_Mo_190 : Cond.fieldLink "PascalMachineModel" 190 "PascalMachineModel" "at" "I" ∈ gt := gtm 863 (by decide +kernel) (by decide +kernel)
theorem k_Mo_187 : Cond.fieldLink "PascalMachineModel" 187 "PascalMachineModel" "wrong" "I" ∈ gt := gtm 864 (by decide +kernel) (by decide +kernel)
theorem k_Mo_84 : Cond.fieldLink "PascalMachineModel" 84 "PascalMachineModel" "within" "[I" ∈ gt := gtm 865 (by decide +kernel) (by decide +kernel)
theorem k_Mo_87 : Cond.fieldLink "PascalMachineModel" 87 "PascalMachineModel" "since" "[I" ∈ gt := gtm 866 (by decide +kernel) (by decide +kernel)
theorem k_Mo_253 : Cond.fieldLink "PascalMachineModel" 253 "PascalMachineModel" "deep" "I" ∈ gt := gtm 867 (by decide +kernel) (by decide +kernel)
theorem k_Mo_90 : Cond.fieldLink "PascalMachineModel" 90 "PascalMachineModel" "cell" "[I" ∈ gt := gtm 868 (by decide +kernel) (by decide +kernel)
theorem k_Mo_93 : Cond.fieldLink "PascalMachineModel" 93 "PascalMachineModel" "stands" "[I" ∈ gt := gtm 869 (by decide +kernel) (by decide +kernel)
theorem k_Mo_96 : Cond.fieldLink "PascalMachineModel" 96 "PascalMachineModel" "blockOf" "[I" ∈ gt := gtm 870 (by decide +kernel) (by decide +kernel)
theorem k_Mo_99 : Cond.fieldLink "PascalMachineModel" 99 "PascalMachineModel" "outer" "[I" ∈ gt := gtm 871 (by decide +kernel) (by decide +kernel)
theorem k_Mo_102 : Cond.fieldLink "PascalMachineModel" 102 "PascalMachineModel" "back" "[I" ∈ gt := gtm 872 (by decide +kernel) (by decide +kernel)
theorem k_Mo_105 : Cond.fieldLink "PascalMachineModel" 105 "PascalMachineModel" "level" "[I" ∈ gt := gtm 873 (by decide +kernel) (by decide +kernel)
theorem k_Mo_108 : Cond.fieldLink "PascalMachineModel" 108 "PascalMachineModel" "doing" "[I" ∈ gt := gtm 874 (by decide +kernel) (by decide +kernel)
theorem k_Mo_111 : Cond.fieldLink "PascalMachineModel" 111 "PascalMachineModel" "doneAt" "[I" ∈ gt := gtm 875 (by decide +kernel) (by decide +kernel)
theorem k_Mo_288 : Cond.fieldLink "PascalMachineModel" 288 "PascalMachineModel" "frame" "I" ∈ gt := gtm 876 (by decide +kernel) (by decide +kernel)
theorem k_Mo_300 : Cond.fieldLink "PascalMachineModel" 300 "PascalMachineModel" "pc" "I" ∈ gt := gtm 877 (by decide +kernel) (by decide +kernel)
theorem k_Mo_297 : Cond.fieldLink "PascalMachineModel" 297 "PascalMachineModel" "failure" "I" ∈ gt := gtm 878 (by decide +kernel) (by decide +kernel)
theorem k_Mo_315 : Cond.fieldLink "PascalMachineModel" 315 "PascalMachineModel" "steps" "I" ∈ gt := gtm 879 (by decide +kernel) (by decide +kernel)
theorem k_Mo_321 : Cond.fieldLink "PascalMachineModel" 321 "PascalMachineModel" "greatest" "I" ∈ gt := gtm 880 (by decide +kernel) (by decide +kernel)
theorem k_Mo_327 : Cond.fieldLink "PascalMachineModel" 327 "PascalMachineModel" "lost" "I" ∈ gt := gtm 881 (by decide +kernel) (by decide +kernel)
theorem k_Mo_114 : Cond.fieldLink "PascalMachineModel" 114 "PascalMachineModel" "output" "[I" ∈ gt := gtm 882 (by decide +kernel) (by decide +kernel)
theorem k_Mo_324 : Cond.fieldLink "PascalMachineModel" 324 "PascalMachineModel" "written" "I" ∈ gt := gtm 883 (by decide +kernel) (by decide +kernel)
theorem k_Mo_117 : Cond.fieldLink "PascalMachineModel" 117 "PascalMachineModel" "sum" "[I" ∈ gt := gtm 884 (by decide +kernel) (by decide +kernel)
theorem k_Mo_120 : Cond.fieldLink "PascalMachineModel" 120 "PascalMachineModel" "term" "[I" ∈ gt := gtm 885 (by decide +kernel) (by decide +kernel)
theorem k_Mo_123 : Cond.fieldLink "PascalMachineModel" 123 "PascalMachineModel" "sumSign" "[I" ∈ gt := gtm 886 (by decide +kernel) (by decide +kernel)
theorem k_Mo_126 : Cond.fieldLink "PascalMachineModel" 126 "PascalMachineModel" "termSign" "[I" ∈ gt := gtm 887 (by decide +kernel) (by decide +kernel)
theorem k_Mo_129 : Cond.fieldLink "PascalMachineModel" 129 "PascalMachineModel" "given" "[I" ∈ gt := gtm 888 (by decide +kernel) (by decide +kernel)
theorem k_Mo_135 : Cond.methodLink "PascalMachineModel" 135 ⟨"PascalMachineModel", "raise", "(I)I"⟩ ∈ gt := gtm 1016 (by decide +kernel) (by decide +kernel)
theorem k_Mo_278 : Cond.methodLink "PascalMachineModel" 278 ⟨"PascalMachineModel", "cutAll", "()V"⟩ ∈ gt := gtm 1028 (by decide +kernel) (by decide +kernel)
theorem k_Mo_180 : Cond.methodLink "PascalMachineModel" 180 ⟨"PascalMachineModel", "sign", "(I)Z"⟩ ∈ gt := gtm 1032 (by decide +kernel) (by decide +kernel)
theorem k_Mo_165 : Cond.methodLink "PascalMachineModel" 165 ⟨"PascalMachineModel", "letter", "(I)Z"⟩ ∈ gt := gtm 1035 (by decide +kernel) (by decide +kernel)
theorem k_Mo_169 : Cond.methodLink "PascalMachineModel" 169 ⟨"PascalMachineModel", "digit", "(I)Z"⟩ ∈ gt := gtm 1038 (by decide +kernel) (by decide +kernel)
theorem k_Mo_183 : Cond.methodLink "PascalMachineModel" 183 ⟨"PascalMachineModel", "cutWord", "(I)V"⟩ ∈ gt := gtm 1041 (by decide +kernel) (by decide +kernel)
theorem k_Mo_172 : Cond.constantLong "PascalMachineModel" 172 10 ∈ gt := gtm 1045 (by decide +kernel) (by decide +kernel)
theorem k_Mo_174 : Cond.constantLong "PascalMachineModel" 174 48 ∈ gt := gtm 1046 (by decide +kernel) (by decide +kernel)
theorem k_Mo_176 : Cond.methodLink "PascalMachineModel" 176 ⟨"PascalMachineModel", "wordKind", "(J)I"⟩ ∈ gt := gtm 1047 (by decide +kernel) (by decide +kernel)
theorem k_Mo_142 : Cond.constantLong "PascalMachineModel" 142 7758194 ∈ gt := gtm 1050 (by decide +kernel) (by decide +kernel)
theorem k_Mo_144 : Cond.constantLong "PascalMachineModel" 144 1886547811 ∈ gt := gtm 1051 (by decide +kernel) (by decide +kernel)
theorem k_Mo_146 : Cond.constantLong "PascalMachineModel" 146 422608071022 ∈ gt := gtm 1052 (by decide +kernel) (by decide +kernel)
theorem k_Mo_148 : Cond.constantLong "PascalMachineModel" 148 6647396 ∈ gt := gtm 1053 (by decide +kernel) (by decide +kernel)
theorem k_Mo_150 : Cond.constantLong "PascalMachineModel" 150 26982 ∈ gt := gtm 1054 (by decide +kernel) (by decide +kernel)
theorem k_Mo_152 : Cond.constantLong "PascalMachineModel" 152 1952998766 ∈ gt := gtm 1055 (by decide +kernel) (by decide +kernel)
theorem k_Mo_154 : Cond.constantLong "PascalMachineModel" 154 1701606245 ∈ gt := gtm 1056 (by decide +kernel) (by decide +kernel)
theorem k_Mo_156 : Cond.constantLong "PascalMachineModel" 156 512852847717 ∈ gt := gtm 1057 (by decide +kernel) (by decide +kernel)
theorem k_Mo_158 : Cond.constantLong "PascalMachineModel" 158 25711 ∈ gt := gtm 1058 (by decide +kernel) (by decide +kernel)
theorem k_Mo_160 : Cond.constantLong "PascalMachineModel" 160 513020621925 ∈ gt := gtm 1059 (by decide +kernel) (by decide +kernel)
theorem k_Mo_281 : Cond.methodLink "PascalMachineModel" 281 ⟨"PascalMachineModel", "readProgram", "()V"⟩ ∈ gt := gtm 1060 (by decide +kernel) (by decide +kernel)
theorem k_Mo_221 : Cond.methodLink "PascalMachineModel" 221 ⟨"PascalMachineModel", "enter", "(I)V"⟩ ∈ gt := gtm 1064 (by decide +kernel) (by decide +kernel)
theorem k_Mo_230 : Cond.methodLink "PascalMachineModel" 230 ⟨"PascalMachineModel", "beginBlock", "()V"⟩ ∈ gt := gtm 1068 (by decide +kernel) (by decide +kernel)
theorem k_Mo_193 : Cond.methodLink "PascalMachineModel" 193 ⟨"PascalMachineModel", "take", "(I)Z"⟩ ∈ gt := gtm 1072 (by decide +kernel) (by decide +kernel)
theorem k_Mo_214 : Cond.methodLink "PascalMachineModel" 214 ⟨"PascalMachineModel", "declare", "(I)V"⟩ ∈ gt := gtm 1076 (by decide +kernel) (by decide +kernel)
theorem k_Mo_196 : Cond.methodLink "PascalMachineModel" 196 ⟨"PascalMachineModel", "blame", "(I)V"⟩ ∈ gt := gtm 1080 (by decide +kernel) (by decide +kernel)
theorem k_Mo_227 : Cond.methodLink "PascalMachineModel" 227 ⟨"PascalMachineModel", "need", "(I)V"⟩ ∈ gt := gtm 1084 (by decide +kernel) (by decide +kernel)
theorem k_Mo_272 : Cond.methodLink "PascalMachineModel" 272 ⟨"PascalMachineModel", "procedure", "()V"⟩ ∈ gt := gtm 1088 (by decide +kernel) (by decide +kernel)
theorem k_Mo_217 : Cond.methodLink "PascalMachineModel" 217 ⟨"PascalMachineModel", "blockDepth", "()I"⟩ ∈ gt := gtm 1092 (by decide +kernel) (by decide +kernel)
theorem k_Mo_224 : Cond.methodLink "PascalMachineModel" 224 ⟨"PascalMachineModel", "parameter", "(I)V"⟩ ∈ gt := gtm 1096 (by decide +kernel) (by decide +kernel)
theorem k_Mo_275 : Cond.methodLink "PascalMachineModel" 275 ⟨"PascalMachineModel", "statements", "()V"⟩ ∈ gt := gtm 1100 (by decide +kernel) (by decide +kernel)
theorem k_Mo_265 : Cond.methodLink "PascalMachineModel" 265 ⟨"PascalMachineModel", "beginStatement", "()Z"⟩ ∈ gt := gtm 1104 (by decide +kernel) (by decide +kernel)
theorem k_Mo_233 : Cond.methodLink "PascalMachineModel" 233 ⟨"PascalMachineModel", "find", "(I)I"⟩ ∈ gt := gtm 1108 (by decide +kernel) (by decide +kernel)
theorem k_Mo_242 : Cond.methodLink "PascalMachineModel" 242 ⟨"PascalMachineModel", "expression", "()V"⟩ ∈ gt := gtm 1112 (by decide +kernel) (by decide +kernel)
theorem k_Mo_236 : Cond.methodLink "PascalMachineModel" 236 ⟨"PascalMachineModel", "factor", "()V"⟩ ∈ gt := gtm 1116 (by decide +kernel) (by decide +kernel)
theorem k_Mo_239 : Cond.methodLink "PascalMachineModel" 239 ⟨"PascalMachineModel", "operator", "(I)Z"⟩ ∈ gt := gtm 1120 (by decide +kernel) (by decide +kernel)
theorem k_Mo_256 : Cond.methodLink "PascalMachineModel" 256 ⟨"PascalMachineModel", "call", "(II)V"⟩ ∈ gt := gtm 1124 (by decide +kernel) (by decide +kernel)
theorem k_Mo_249 : Cond.methodLink "PascalMachineModel" 249 ⟨"PascalMachineModel", "argument", "(II)V"⟩ ∈ gt := gtm 1128 (by decide +kernel) (by decide +kernel)
theorem k_Mo_245 : Cond.methodLink "PascalMachineModel" 245 ⟨"PascalMachineModel", "parameterOf", "(II)I"⟩ ∈ gt := gtm 1132 (by decide +kernel) (by decide +kernel)
theorem k_Mo_259 : Cond.methodLink "PascalMachineModel" 259 ⟨"PascalMachineModel", "deeper", "(II)V"⟩ ∈ gt := gtm 1136 (by decide +kernel) (by decide +kernel)
theorem k_Mo_262 : Cond.methodLink "PascalMachineModel" 262 ⟨"PascalMachineModel", "condition", "()V"⟩ ∈ gt := gtm 1140 (by decide +kernel) (by decide +kernel)
theorem k_Mo_269 : Cond.methodLink "PascalMachineModel" 269 ⟨"PascalMachineModel", "behindStatement", "()Z"⟩ ∈ gt := gtm 1144 (by decide +kernel) (by decide +kernel)
theorem k_Mo_351 : Cond.methodLink "PascalMachineModel" 351 ⟨"PascalMachineModel", "statement", "()V"⟩ ∈ gt := gtm 1156 (by decide +kernel) (by decide +kernel)
theorem k_Mo_330 : Cond.methodLink "PascalMachineModel" 330 ⟨"PascalMachineModel", "step", "()V"⟩ ∈ gt := gtm 1160 (by decide +kernel) (by decide +kernel)
theorem k_Mo_342 : Cond.methodLink "PascalMachineModel" 342 ⟨"PascalMachineModel", "enterCall", "(I)V"⟩ ∈ gt := gtm 1164 (by decide +kernel) (by decide +kernel)
theorem k_Mo_306 : Cond.methodLink "PascalMachineModel" 306 ⟨"PascalMachineModel", "place", "(I)I"⟩ ∈ gt := gtm 1168 (by decide +kernel) (by decide +kernel)
theorem k_Mo_291 : Cond.methodLink "PascalMachineModel" 291 ⟨"PascalMachineModel", "runOf", "(I)I"⟩ ∈ gt := gtm 1172 (by decide +kernel) (by decide +kernel)
theorem k_Mo_294 : Cond.methodLink "PascalMachineModel" 294 ⟨"PascalMachineModel", "slot", "(I)I"⟩ ∈ gt := gtm 1176 (by decide +kernel) (by decide +kernel)
theorem k_Mo_318 : Cond.methodLink "PascalMachineModel" 318 ⟨"PascalMachineModel", "evaluate", "()I"⟩ ∈ gt := gtm 1180 (by decide +kernel) (by decide +kernel)
theorem k_Mo_303 : Cond.methodLink "PascalMachineModel" 303 ⟨"PascalMachineModel", "openSum", "(I)V"⟩ ∈ gt := gtm 1184 (by decide +kernel) (by decide +kernel)
theorem k_Mo_309 : Cond.methodLink "PascalMachineModel" 309 ⟨"PascalMachineModel", "multiply", "(II)V"⟩ ∈ gt := gtm 1188 (by decide +kernel) (by decide +kernel)
theorem k_Mo_312 : Cond.methodLink "PascalMachineModel" 312 ⟨"PascalMachineModel", "add", "(I)V"⟩ ∈ gt := gtm 1192 (by decide +kernel) (by decide +kernel)
theorem k_Mo_339 : Cond.methodLink "PascalMachineModel" 339 ⟨"PascalMachineModel", "over", "()V"⟩ ∈ gt := gtm 1196 (by decide +kernel) (by decide +kernel)
theorem k_Mo_345 : Cond.methodLink "PascalMachineModel" 345 ⟨"PascalMachineModel", "write", "(I)V"⟩ ∈ gt := gtm 1200 (by decide +kernel) (by decide +kernel)
theorem k_Mo_336 : Cond.methodLink "PascalMachineModel" 336 ⟨"PascalMachineModel", "push", "(II)V"⟩ ∈ gt := gtm 1204 (by decide +kernel) (by decide +kernel)
theorem k_Mo_348 : Cond.methodLink "PascalMachineModel" 348 ⟨"PascalMachineModel", "test", "(I)V"⟩ ∈ gt := gtm 1208 (by decide +kernel) (by decide +kernel)
theorem k_Mo_333 : Cond.methodLink "PascalMachineModel" 333 ⟨"PascalMachineModel", "holds", "()Z"⟩ ∈ gt := gtm 1212 (by decide +kernel) (by decide +kernel)
theorem k_Tk_92 : Cond.fieldLink "PascalMachine$Tokens" 92 "PascalMachine$Kind" "spelling" "Ljava/lang/String;" ∈ gt := gtm 1226 (by decide +kernel) (by decide +kernel)
theorem k_JS_9 : Cond.fieldLink "java/lang/String" 9 "java/lang/String" "value" "[B" ∈ gt := gtm 1227 (by decide +kernel) (by decide +kernel)
theorem k_JS_15 : Cond.fieldLink "java/lang/String" 15 "java/lang/String" "coder" "B" ∈ gt := gtm 1228 (by decide +kernel) (by decide +kernel)
theorem k_JE_7 : Cond.fieldLink "java/lang/Enum" 7 "java/lang/Enum" "ordinal" "I" ∈ gt := gtm 1229 (by decide +kernel) (by decide +kernel)
theorem ki_Exception : Cond.initialized "java/lang/Exception" ∈ gt := gtm 9 (by decide +kernel) (by decide +kernel)
theorem ki_RuntimeException : Cond.initialized "java/lang/RuntimeException" ∈ gt := gtm 10 (by decide +kernel) (by decide +kernel)
theorem ki_IllegalArgumentException : Cond.initialized "java/lang/IllegalArgumentException" ∈ gt := gtm 11 (by decide +kernel) (by decide +kernel)
theorem ki_IllegalStateException : Cond.initialized "java/lang/IllegalStateException" ∈ gt := gtm 12 (by decide +kernel) (by decide +kernel)
theorem ki_NoSuchElementException : Cond.initialized "java/util/NoSuchElementException" ∈ gt := gtm 21 (by decide +kernel) (by decide +kernel)
theorem ki_IndexOutOfBoundsException : Cond.initialized "java/lang/IndexOutOfBoundsException" ∈ gt := gtm 22 (by decide +kernel) (by decide +kernel)
theorem ki_ArithmeticException : Cond.initialized "java/lang/ArithmeticException" ∈ gt := gtm 23 (by decide +kernel) (by decide +kernel)
end
section
/-! ===== the words on the methods ===== -/
theorem kc_PM_append : Cond.code ⟨"PascalMachine", "append", "(JI)I"⟩ prog_1_method_2_code 5 (some .int) ∈ gt := gtm 245 (by decide +kernel) (by decide +kernel)
theorem kc_PM_cut : Cond.code ⟨"PascalMachine", "cut", "(I)I"⟩ prog_1_method_3_code 2 (some .int) ∈ gt := gtm 338 (by decide +kernel) (by decide +kernel)
theorem kc_PM_compile : Cond.code ⟨"PascalMachine", "compile", "()I"⟩ prog_1_method_4_code 3 (some .int) ∈ gt := gtm 345 (by decide +kernel) (by decide +kernel)
theorem kc_PM_fault : Cond.code ⟨"PascalMachine", "fault", "()I"⟩ prog_1_method_5_code 1 (some .int) ∈ gt := gtm 236 (by decide +kernel) (by decide +kernel)
theorem kc_PM_run : Cond.code ⟨"PascalMachine", "run", "()I"⟩ prog_1_method_6_code 1 (some .int) ∈ gt := gtm 689 (by decide +kernel) (by decide +kernel)
theorem kc_PM_output : Cond.code ⟨"PascalMachine", "output", "(I)I"⟩ prog_1_method_7_code 2 (some .int) ∈ gt := gtm 816 (by decide +kernel) (by decide +kernel)
theorem kc_PM_count : Cond.code ⟨"PascalMachine", "count", "(I)I"⟩ prog_1_method_8_code 2 (some .int) ∈ gt := gtm 823 (by decide +kernel) (by decide +kernel)
theorem kc_PM_hasOnlyCodes : Cond.code ⟨"PascalMachine", "hasOnlyCodes", "(JI)Z"⟩ prog_1_method_9_code 5 (some .boolean) ∈ gt := gtm 248 (by decide +kernel) (by decide +kernel)
theorem kc_PM_byteAt : Cond.code ⟨"PascalMachine", "byteAt", "(JI)I"⟩ prog_1_method_10_code 3 (some .int) ∈ gt := gtm 251 (by decide +kernel) (by decide +kernel)
theorem kc_Mo_thrown : Cond.code ⟨"PascalMachineModel", "thrown", "()I"⟩ prog_10_method_2_code 1 (some .int) ∈ gt := gtm 1011 (by decide +kernel) (by decide +kernel)
theorem kc_Mo_raise : Cond.code ⟨"PascalMachineModel", "raise", "(I)I"⟩ prog_10_method_3_code 2 (some .int) ∈ gt := gtm 1019 (by decide +kernel) (by decide +kernel)
theorem kc_Mo_append : Cond.code ⟨"PascalMachineModel", "append", "(JI)I"⟩ prog_10_method_4_code 6 (some .int) ∈ gt := gtm 1015 (by decide +kernel) (by decide +kernel)
theorem kc_Mo_cut : Cond.code ⟨"PascalMachineModel", "cut", "(I)I"⟩ prog_10_method_5_code 2 (some .int) ∈ gt := gtm 1023 (by decide +kernel) (by decide +kernel)
theorem kc_Mo_letter : Cond.code ⟨"PascalMachineModel", "letter", "(I)Z"⟩ prog_10_method_6_code 1 (some .boolean) ∈ gt := gtm 1037 (by decide +kernel) (by decide +kernel)
theorem kc_Mo_digit : Cond.code ⟨"PascalMachineModel", "digit", "(I)Z"⟩ prog_10_method_7_code 1 (some .boolean) ∈ gt := gtm 1040 (by decide +kernel) (by decide +kernel)
theorem kc_Mo_wordKind : Cond.code ⟨"PascalMachineModel", "wordKind", "(J)I"⟩ prog_10_method_8_code 2 (some .int) ∈ gt := gtm 1049 (by decide +kernel) (by decide +kernel)
theorem kc_Mo_sign : Cond.code ⟨"PascalMachineModel", "sign", "(I)Z"⟩ prog_10_method_9_code 1 (some .boolean) ∈ gt := gtm 1034 (by decide +kernel) (by decide +kernel)
theorem kc_Mo_cutWord : Cond.code ⟨"PascalMachineModel", "cutWord", "(I)V"⟩ prog_10_method_10_code 7 none ∈ gt := gtm 1044 (by decide +kernel) (by decide +kernel)
theorem kc_Mo_cutAll : Cond.code ⟨"PascalMachineModel", "cutAll", "()V"⟩ prog_10_method_11_code 4 none ∈ gt := gtm 1031 (by decide +kernel) (by decide +kernel)
theorem kc_Mo_blame : Cond.code ⟨"PascalMachineModel", "blame", "(I)V"⟩ prog_10_method_12_code 2 none ∈ gt := gtm 1083 (by decide +kernel) (by decide +kernel)
theorem kc_Mo_take : Cond.code ⟨"PascalMachineModel", "take", "(I)Z"⟩ prog_10_method_13_code 2 (some .boolean) ∈ gt := gtm 1075 (by decide +kernel) (by decide +kernel)
theorem kc_Mo_need : Cond.code ⟨"PascalMachineModel", "need", "(I)V"⟩ prog_10_method_14_code 2 none ∈ gt := gtm 1087 (by decide +kernel) (by decide +kernel)
theorem kc_Mo_declare : Cond.code ⟨"PascalMachineModel", "declare", "(I)V"⟩ prog_10_method_15_code 3 none ∈ gt := gtm 1079 (by decide +kernel) (by decide +kernel)
theorem kc_Mo_find : Cond.code ⟨"PascalMachineModel", "find", "(I)I"⟩ prog_10_method_16_code 4 (some .int) ∈ gt := gtm 1111 (by decide +kernel) (by decide +kernel)
theorem kc_Mo_blockDepth : Cond.code ⟨"PascalMachineModel", "blockDepth", "()I"⟩ prog_10_method_17_code 3 (some .int) ∈ gt := gtm 1095 (by decide +kernel) (by decide +kernel)
theorem kc_Mo_enter : Cond.code ⟨"PascalMachineModel", "enter", "(I)V"⟩ prog_10_method_18_code 2 none ∈ gt := gtm 1067 (by decide +kernel) (by decide +kernel)
theorem kc_Mo_parameter : Cond.code ⟨"PascalMachineModel", "parameter", "(I)V"⟩ prog_10_method_19_code 3 none ∈ gt := gtm 1099 (by decide +kernel) (by decide +kernel)
theorem kc_Mo_procedure : Cond.code ⟨"PascalMachineModel", "procedure", "()V"⟩ prog_10_method_20_code 2 none ∈ gt := gtm 1091 (by decide +kernel) (by decide +kernel)
theorem kc_Mo_beginBlock : Cond.code ⟨"PascalMachineModel", "beginBlock", "()V"⟩ prog_10_method_21_code 1 none ∈ gt := gtm 1071 (by decide +kernel) (by decide +kernel)
theorem kc_Mo_factor : Cond.code ⟨"PascalMachineModel", "factor", "()V"⟩ prog_10_method_22_code 2 none ∈ gt := gtm 1119 (by decide +kernel) (by decide +kernel)
theorem kc_Mo_operator : Cond.code ⟨"PascalMachineModel", "operator", "(I)Z"⟩ prog_10_method_23_code 2 (some .boolean) ∈ gt := gtm 1123 (by decide +kernel) (by decide +kernel)
theorem kc_Mo_expression : Cond.code ⟨"PascalMachineModel", "expression", "()V"⟩ prog_10_method_24_code 3 none ∈ gt := gtm 1115 (by decide +kernel) (by decide +kernel)
theorem kc_Mo_condition : Cond.code ⟨"PascalMachineModel", "condition", "()V"⟩ prog_10_method_25_code 1 none ∈ gt := gtm 1143 (by decide +kernel) (by decide +kernel)
theorem kc_Mo_argument : Cond.code ⟨"PascalMachineModel", "argument", "(II)V"⟩ prog_10_method_26_code 5 none ∈ gt := gtm 1131 (by decide +kernel) (by decide +kernel)
theorem kc_Mo_parameterOf : Cond.code ⟨"PascalMachineModel", "parameterOf", "(II)I"⟩ prog_10_method_27_code 3 (some .int) ∈ gt := gtm 1135 (by decide +kernel) (by decide +kernel)
theorem kc_Mo_call : Cond.code ⟨"PascalMachineModel", "call", "(II)V"⟩ prog_10_method_28_code 4 none ∈ gt := gtm 1127 (by decide +kernel) (by decide +kernel)
theorem kc_Mo_deeper : Cond.code ⟨"PascalMachineModel", "deeper", "(II)V"⟩ prog_10_method_29_code 3 none ∈ gt := gtm 1139 (by decide +kernel) (by decide +kernel)
theorem kc_Mo_beginStatement : Cond.code ⟨"PascalMachineModel", "beginStatement", "()Z"⟩ prog_10_method_30_code 4 (some .boolean) ∈ gt := gtm 1107 (by decide +kernel) (by decide +kernel)
theorem kc_Mo_behindStatement : Cond.code ⟨"PascalMachineModel", "behindStatement", "()Z"⟩ prog_10_method_31_code 3 (some .boolean) ∈ gt := gtm 1147 (by decide +kernel) (by decide +kernel)
theorem kc_Mo_statements : Cond.code ⟨"PascalMachineModel", "statements", "()V"⟩ prog_10_method_32_code 2 none ∈ gt := gtm 1103 (by decide +kernel) (by decide +kernel)
theorem kc_Mo_readProgram : Cond.code ⟨"PascalMachineModel", "readProgram", "()V"⟩ prog_10_method_33_code 2 none ∈ gt := gtm 1063 (by decide +kernel) (by decide +kernel)
theorem kc_Mo_compile : Cond.code ⟨"PascalMachineModel", "compile", "()I"⟩ prog_10_method_34_code 2 (some .int) ∈ gt := gtm 1027 (by decide +kernel) (by decide +kernel)
theorem kc_Mo_fault : Cond.code ⟨"PascalMachineModel", "fault", "()I"⟩ prog_10_method_35_code 1 (some .int) ∈ gt := gtm 1151 (by decide +kernel) (by decide +kernel)
theorem kc_Mo_runOf : Cond.code ⟨"PascalMachineModel", "runOf", "(I)I"⟩ prog_10_method_36_code 3 (some .int) ∈ gt := gtm 1175 (by decide +kernel) (by decide +kernel)
theorem kc_Mo_place : Cond.code ⟨"PascalMachineModel", "place", "(I)I"⟩ prog_10_method_37_code 3 (some .int) ∈ gt := gtm 1171 (by decide +kernel) (by decide +kernel)
theorem kc_Mo_slot : Cond.code ⟨"PascalMachineModel", "slot", "(I)I"⟩ prog_10_method_38_code 4 (some .int) ∈ gt := gtm 1179 (by decide +kernel) (by decide +kernel)
theorem kc_Mo_multiply : Cond.code ⟨"PascalMachineModel", "multiply", "(II)V"⟩ prog_10_method_39_code 3 none ∈ gt := gtm 1191 (by decide +kernel) (by decide +kernel)
theorem kc_Mo_add : Cond.code ⟨"PascalMachineModel", "add", "(I)V"⟩ prog_10_method_40_code 2 none ∈ gt := gtm 1195 (by decide +kernel) (by decide +kernel)
theorem kc_Mo_openSum : Cond.code ⟨"PascalMachineModel", "openSum", "(I)V"⟩ prog_10_method_41_code 2 none ∈ gt := gtm 1187 (by decide +kernel) (by decide +kernel)
theorem kc_Mo_evaluate : Cond.code ⟨"PascalMachineModel", "evaluate", "()I"⟩ prog_10_method_42_code 4 (some .int) ∈ gt := gtm 1183 (by decide +kernel) (by decide +kernel)
theorem kc_Mo_step : Cond.code ⟨"PascalMachineModel", "step", "()V"⟩ prog_10_method_43_code 1 none ∈ gt := gtm 1163 (by decide +kernel) (by decide +kernel)
theorem kc_Mo_push : Cond.code ⟨"PascalMachineModel", "push", "(II)V"⟩ prog_10_method_44_code 3 none ∈ gt := gtm 1207 (by decide +kernel) (by decide +kernel)
theorem kc_Mo_holds : Cond.code ⟨"PascalMachineModel", "holds", "()Z"⟩ prog_10_method_45_code 4 (some .boolean) ∈ gt := gtm 1215 (by decide +kernel) (by decide +kernel)
theorem kc_Mo_enterCall : Cond.code ⟨"PascalMachineModel", "enterCall", "(I)V"⟩ prog_10_method_46_code 6 none ∈ gt := gtm 1167 (by decide +kernel) (by decide +kernel)
theorem kc_Mo_write : Cond.code ⟨"PascalMachineModel", "write", "(I)V"⟩ prog_10_method_47_code 2 none ∈ gt := gtm 1203 (by decide +kernel) (by decide +kernel)
theorem kc_Mo_test : Cond.code ⟨"PascalMachineModel", "test", "(I)V"⟩ prog_10_method_48_code 3 none ∈ gt := gtm 1211 (by decide +kernel) (by decide +kernel)
theorem kc_Mo_over : Cond.code ⟨"PascalMachineModel", "over", "()V"⟩ prog_10_method_49_code 5 none ∈ gt := gtm 1199 (by decide +kernel) (by decide +kernel)
theorem kc_Mo_statement : Cond.code ⟨"PascalMachineModel", "statement", "()V"⟩ prog_10_method_50_code 4 none ∈ gt := gtm 1159 (by decide +kernel) (by decide +kernel)
theorem kc_Mo_run : Cond.code ⟨"PascalMachineModel", "run", "()I"⟩ prog_10_method_51_code 2 (some .int) ∈ gt := gtm 1155 (by decide +kernel) (by decide +kernel)
theorem kc_Mo_output : Cond.code ⟨"PascalMachineModel", "output", "(I)I"⟩ prog_10_method_52_code 2 (some .int) ∈ gt := gtm 1219 (by decide +kernel) (by decide +kernel)
theorem kc_Mo_count : Cond.code ⟨"PascalMachineModel", "count", "(I)I"⟩ prog_10_method_53_code 2 (some .int) ∈ gt := gtm 1223 (by decide +kernel) (by decide +kernel)
theorem kc_Co_add : Cond.code ⟨"PascalMachine$Code", "add", "(III)I"⟩ prog_3_method_2_code 5 (some .int) ∈ gt := gtm 584 (by decide +kernel) (by decide +kernel)
theorem kc_Co_isReference : Cond.code ⟨"PascalMachine$Code", "isReference", "(II)Z"⟩ prog_3_method_3_code 3 (some .boolean) ∈ gt := gtm 632 (by decide +kernel) (by decide +kernel)
theorem kc_Co_jumpToEnd : Cond.code ⟨"PascalMachine$Code", "jumpToEnd", "(I)V"⟩ prog_3_method_4_code 2 none ∈ gt := gtm 660 (by decide +kernel) (by decide +kernel)
theorem kc_Co_takeAddress : Cond.code ⟨"PascalMachine$Code", "takeAddress", "(I)V"⟩ prog_3_method_5_code 2 none ∈ gt := gtm 636 (by decide +kernel) (by decide +kernel)
theorem kc_Cp_translate : Cond.code ⟨"PascalMachine$Compiler", "translate", "([CI)I"⟩ prog_4_method_2_code 3 (some .int) ∈ gt := gtm 349 (by decide +kernel) (by decide +kernel)
theorem kc_Cp_refuse : Cond.code ⟨"PascalMachine$Compiler", "refuse", "(I)V"⟩ prog_4_method_3_code 2 none ∈ gt := gtm 504 (by decide +kernel) (by decide +kernel)
theorem kc_Cp_expect : Cond.code ⟨"PascalMachine$Compiler", "expect", "(LPascalMachine$Kind;)V"⟩ prog_4_method_4_code 2 none ∈ gt := gtm 515 (by decide +kernel) (by decide +kernel)
theorem kc_Cp_declareName : Cond.code ⟨"PascalMachine$Compiler", "declareName", "(I)V"⟩ prog_4_method_5_code 2 none ∈ gt := gtm 475 (by decide +kernel) (by decide +kernel)
theorem kc_Cp_block : Cond.code ⟨"PascalMachine$Compiler", "block", "(I)I"⟩ prog_4_method_6_code 3 (some .int) ∈ gt := gtm 457 (by decide +kernel) (by decide +kernel)
theorem kc_Cp_variables : Cond.code ⟨"PascalMachine$Compiler", "variables", "()V"⟩ prog_4_method_7_code 2 none ∈ gt := gtm 471 (by decide +kernel) (by decide +kernel)
theorem kc_Cp_procedure : Cond.code ⟨"PascalMachine$Compiler", "procedure", "(I)V"⟩ prog_4_method_8_code 3 none ∈ gt := gtm 521 (by decide +kernel) (by decide +kernel)
theorem kc_Cp_parameters : Cond.code ⟨"PascalMachine$Compiler", "parameters", "(I)V"⟩ prog_4_method_9_code 3 none ∈ gt := gtm 535 (by decide +kernel) (by decide +kernel)
theorem kc_Cp_parameter : Cond.code ⟨"PascalMachine$Compiler", "parameter", "(I)V"⟩ prog_4_method_10_code 4 none ∈ gt := gtm 539 (by decide +kernel) (by decide +kernel)
theorem kc_Cp_statements : Cond.code ⟨"PascalMachine$Compiler", "statements", "(I)V"⟩ prog_4_method_11_code 3 none ∈ gt := gtm 553 (by decide +kernel) (by decide +kernel)
theorem kc_Cp_statement : Cond.code ⟨"PascalMachine$Compiler", "statement", "(I)V"⟩ prog_4_method_12_code 2 none ∈ gt := gtm 557 (by decide +kernel) (by decide +kernel)
theorem kc_Cp_goDeeper : Cond.code ⟨"PascalMachine$Compiler", "goDeeper", "(I)V"⟩ prog_4_method_13_code 2 none ∈ gt := gtm 640 (by decide +kernel) (by decide +kernel)
theorem kc_Cp_assignment : Cond.code ⟨"PascalMachine$Compiler", "assignment", "()V"⟩ prog_4_method_14_code 3 none ∈ gt := gtm 575 (by decide +kernel) (by decide +kernel)
theorem kc_Cp_procedureCall : Cond.code ⟨"PascalMachine$Compiler", "procedureCall", "()V"⟩ prog_4_method_15_code 4 none ∈ gt := gtm 624 (by decide +kernel) (by decide +kernel)
theorem kc_Cp_arguments : Cond.code ⟨"PascalMachine$Compiler", "arguments", "(I)I"⟩ prog_4_method_16_code 7 (some .int) ∈ gt := gtm 628 (by decide +kernel) (by decide +kernel)
theorem kc_Cp_ifStatement : Cond.code ⟨"PascalMachine$Compiler", "ifStatement", "(I)V"⟩ prog_4_method_17_code 4 none ∈ gt := gtm 644 (by decide +kernel) (by decide +kernel)
theorem kc_Cp_whileStatement : Cond.code ⟨"PascalMachine$Compiler", "whileStatement", "(I)V"⟩ prog_4_method_18_code 4 none ∈ gt := gtm 664 (by decide +kernel) (by decide +kernel)
theorem kc_Cp_writeStatement : Cond.code ⟨"PascalMachine$Compiler", "writeStatement", "()V"⟩ prog_4_method_19_code 1 none ∈ gt := gtm 670 (by decide +kernel) (by decide +kernel)
theorem kc_Cp_condition : Cond.code ⟨"PascalMachine$Compiler", "condition", "()I"⟩ prog_4_method_20_code 2 (some .int) ∈ gt := gtm 648 (by decide +kernel) (by decide +kernel)
theorem kc_Cp_comparison : Cond.code ⟨"PascalMachine$Compiler", "comparison", "()I"⟩ prog_4_method_21_code 1 (some .int) ∈ gt := gtm 652 (by decide +kernel) (by decide +kernel)
theorem kc_Cp_expression : Cond.code ⟨"PascalMachine$Compiler", "expression", "(I)V"⟩ prog_4_method_22_code 5 none ∈ gt := gtm 588 (by decide +kernel) (by decide +kernel)
theorem kc_Cp_term : Cond.code ⟨"PascalMachine$Compiler", "term", "(I)V"⟩ prog_4_method_23_code 4 none ∈ gt := gtm 594 (by decide +kernel) (by decide +kernel)
theorem kc_Cp_multiplication : Cond.code ⟨"PascalMachine$Compiler", "multiplication", "()I"⟩ prog_4_method_24_code 1 (some .int) ∈ gt := gtm 618 (by decide +kernel) (by decide +kernel)
theorem kc_Cp_factor : Cond.code ⟨"PascalMachine$Compiler", "factor", "(I)V"⟩ prog_4_method_25_code 2 none ∈ gt := gtm 598 (by decide +kernel) (by decide +kernel)
theorem kc_Cp_variable : Cond.code ⟨"PascalMachine$Compiler", "variable", "()V"⟩ prog_4_method_26_code 3 none ∈ gt := gtm 602 (by decide +kernel) (by decide +kernel)
theorem kc_Mc_execute : Cond.code ⟨"PascalMachine$Machine", "execute", "()V"⟩ prog_6_method_2_code 3 none ∈ gt := gtm 708 (by decide +kernel) (by decide +kernel)
theorem kc_Mc_begin : Cond.code ⟨"PascalMachine$Machine", "begin", "()V"⟩ prog_6_method_3_code 1 none ∈ gt := gtm 712 (by decide +kernel) (by decide +kernel)
theorem kc_Mc_clearFrame : Cond.code ⟨"PascalMachine$Machine", "clearFrame", "()V"⟩ prog_6_method_4_code 2 none ∈ gt := gtm 716 (by decide +kernel) (by decide +kernel)
theorem kc_Mc_perform : Cond.code ⟨"PascalMachine$Machine", "perform", "(III)V"⟩ prog_6_method_5_code 4 none ∈ gt := gtm 725 (by decide +kernel) (by decide +kernel)
theorem kc_Mc_takeStep : Cond.code ⟨"PascalMachine$Machine", "takeStep", "()V"⟩ prog_6_method_6_code 1 none ∈ gt := gtm 729 (by decide +kernel) (by decide +kernel)
theorem kc_Mc_combine : Cond.code ⟨"PascalMachine$Machine", "combine", "(I)V"⟩ prog_6_method_7_code 4 none ∈ gt := gtm 785 (by decide +kernel) (by decide +kernel)
theorem kc_Mc_isTrue : Cond.code ⟨"PascalMachine$Machine", "isTrue", "(III)Z"⟩ prog_6_method_8_code 3 (some .boolean) ∈ gt := gtm 788 (by decide +kernel) (by decide +kernel)
theorem kc_Mc_calculate : Cond.code ⟨"PascalMachine$Machine", "calculate", "(III)I"⟩ prog_6_method_9_code 3 (some .int) ∈ gt := gtm 791 (by decide +kernel) (by decide +kernel)
theorem kc_Mc_divide : Cond.code ⟨"PascalMachine$Machine", "divide", "(ZII)I"⟩ prog_6_method_10_code 3 (some .int) ∈ gt := gtm 794 (by decide +kernel) (by decide +kernel)
theorem kc_Mc_enter : Cond.code ⟨"PascalMachine$Machine", "enter", "(II)V"⟩ prog_6_method_11_code 4 none ∈ gt := gtm 755 (by decide +kernel) (by decide +kernel)
theorem kc_Mc_leave : Cond.code ⟨"PascalMachine$Machine", "leave", "()V"⟩ prog_6_method_12_code 1 none ∈ gt := gtm 777 (by decide +kernel) (by decide +kernel)
theorem kc_Mc_put : Cond.code ⟨"PascalMachine$Machine", "put", "(I)V"⟩ prog_6_method_13_code 2 none ∈ gt := gtm 781 (by decide +kernel) (by decide +kernel)
theorem kc_Mc_frameOutward : Cond.code ⟨"PascalMachine$Machine", "frameOutward", "(I)I"⟩ prog_6_method_14_code 4 (some .int) ∈ gt := gtm 743 (by decide +kernel) (by decide +kernel)
theorem kc_Mc_address : Cond.code ⟨"PascalMachine$Machine", "address", "(II)I"⟩ prog_6_method_15_code 3 (some .int) ∈ gt := gtm 739 (by decide +kernel) (by decide +kernel)
theorem kc_Mc_load : Cond.code ⟨"PascalMachine$Machine", "load", "(I)I"⟩ prog_6_method_16_code 2 (some .int) ∈ gt := gtm 747 (by decide +kernel) (by decide +kernel)
theorem kc_Mc_store : Cond.code ⟨"PascalMachine$Machine", "store", "(II)V"⟩ prog_6_method_17_code 3 none ∈ gt := gtm 720 (by decide +kernel) (by decide +kernel)
theorem kc_Mc_push : Cond.code ⟨"PascalMachine$Machine", "push", "(I)V"⟩ prog_6_method_18_code 2 none ∈ gt := gtm 735 (by decide +kernel) (by decide +kernel)
theorem kc_Mc_pop : Cond.code ⟨"PascalMachine$Machine", "pop", "()I"⟩ prog_6_method_19_code 1 (some .int) ∈ gt := gtm 751 (by decide +kernel) (by decide +kernel)
theorem kc_Nm_clear : Cond.code ⟨"PascalMachine$Names", "clear", "()V"⟩ prog_7_method_2_code 1 none ∈ gt := gtm 453 (by decide +kernel) (by decide +kernel)
theorem kc_Nm_declared : Cond.code ⟨"PascalMachine$Names", "declared", "()I"⟩ prog_7_method_3_code 1 (some .int) ∈ gt := gtm 679 (by decide +kernel) (by decide +kernel)
theorem kc_Nm_open : Cond.code ⟨"PascalMachine$Names", "open", "()V"⟩ prog_7_method_4_code 1 none ∈ gt := gtm 529 (by decide +kernel) (by decide +kernel)
theorem kc_Nm_close : Cond.code ⟨"PascalMachine$Names", "close", "()V"⟩ prog_7_method_5_code 1 none ∈ gt := gtm 547 (by decide +kernel) (by decide +kernel)
theorem kc_Nm_declare : Cond.code ⟨"PascalMachine$Names", "declare", "(JI)Z"⟩ prog_7_method_6_code 6 (some .boolean) ∈ gt := gtm 488 (by decide +kernel) (by decide +kernel)
theorem kc_Nm_isFull : Cond.code ⟨"PascalMachine$Names", "isFull", "(I)Z"⟩ prog_7_method_7_code 2 (some .boolean) ∈ gt := gtm 496 (by decide +kernel) (by decide +kernel)
theorem kc_Nm_find : Cond.code ⟨"PascalMachine$Names", "find", "(J)I"⟩ prog_7_method_8_code 4 (some .int) ∈ gt := gtm 492 (by decide +kernel) (by decide +kernel)
theorem kc_Nm_isProcedure : Cond.code ⟨"PascalMachine$Names", "isProcedure", "(I)Z"⟩ prog_7_method_9_code 2 (some .boolean) ∈ gt := gtm 580 (by decide +kernel) (by decide +kernel)
theorem kc_Nm_isReference : Cond.code ⟨"PascalMachine$Names", "isReference", "(I)Z"⟩ prog_7_method_10_code 2 (some .boolean) ∈ gt := gtm 606 (by decide +kernel) (by decide +kernel)
theorem kc_Nm_hops : Cond.code ⟨"PascalMachine$Names", "hops", "(I)I"⟩ prog_7_method_11_code 2 (some .int) ∈ gt := gtm 610 (by decide +kernel) (by decide +kernel)
theorem kc_Nm_number : Cond.code ⟨"PascalMachine$Names", "number", "(I)I"⟩ prog_7_method_12_code 2 (some .int) ∈ gt := gtm 614 (by decide +kernel) (by decide +kernel)
theorem kc_Nm_lastProcedure : Cond.code ⟨"PascalMachine$Names", "lastProcedure", "()I"⟩ prog_7_method_13_code 1 (some .int) ∈ gt := gtm 525 (by decide +kernel) (by decide +kernel)
theorem kc_Tk_read : Cond.code ⟨"PascalMachine$Tokens", "read", "([CI)V"⟩ prog_8_method_2_code 5 none ∈ gt := gtm 353 (by decide +kernel) (by decide +kernel)
theorem kc_Tk_readToken : Cond.code ⟨"PascalMachine$Tokens", "readToken", "(I)LPascalMachine$Kind;"⟩ prog_8_method_3_code 3 (some (.object "PascalMachine$Kind")) ∈ gt := gtm 357 (by decide +kernel) (by decide +kernel)
theorem kc_Tk_behindBlanks : Cond.code ⟨"PascalMachine$Tokens", "behindBlanks", "()I"⟩ prog_8_method_4_code 2 (some .int) ∈ gt := gtm 361 (by decide +kernel) (by decide +kernel)
theorem kc_Tk_readWord : Cond.code ⟨"PascalMachine$Tokens", "readWord", "(II)LPascalMachine$Kind;"⟩ prog_8_method_5_code 5 (some (.object "PascalMachine$Kind")) ∈ gt := gtm 372 (by decide +kernel) (by decide +kernel)
theorem kc_Tk_readNumber : Cond.code ⟨"PascalMachine$Tokens", "readNumber", "(II)LPascalMachine$Kind;"⟩ prog_8_method_6_code 5 (some (.object "PascalMachine$Kind")) ∈ gt := gtm 439 (by decide +kernel) (by decide +kernel)
theorem kc_Tk_readSign : Cond.code ⟨"PascalMachine$Tokens", "readSign", "(I)LPascalMachine$Kind;"⟩ prog_8_method_7_code 2 (some (.object "PascalMachine$Kind")) ∈ gt := gtm 446 (by decide +kernel) (by decide +kernel)
theorem kc_Tk_kindSpelled : Cond.code ⟨"PascalMachine$Tokens", "kindSpelled", "(ILPascalMachine$Kind;)LPascalMachine$Kind;"⟩ prog_8_method_8_code 4 (some (.object "PascalMachine$Kind")) ∈ gt := gtm 381 (by decide +kernel) (by decide +kernel)
theorem kc_Tk_isSpelled : Cond.code ⟨"PascalMachine$Tokens", "isSpelled", "(ILjava/lang/String;)Z"⟩ prog_8_method_9_code 4 (some .boolean) ∈ gt := gtm 387 (by decide +kernel) (by decide +kernel)
theorem kc_Tk_isLetter : Cond.code ⟨"PascalMachine$Tokens", "isLetter", "(C)Z"⟩ prog_8_method_10_code 1 (some .boolean) ∈ gt := gtm 368 (by decide +kernel) (by decide +kernel)
theorem kc_Tk_isDigit : Cond.code ⟨"PascalMachine$Tokens", "isDigit", "(C)Z"⟩ prog_8_method_11_code 1 (some .boolean) ∈ gt := gtm 375 (by decide +kernel) (by decide +kernel)
theorem kc_Tk_kind : Cond.code ⟨"PascalMachine$Tokens", "kind", "()LPascalMachine$Kind;"⟩ prog_8_method_12_code 1 (some (.object "PascalMachine$Kind")) ∈ gt := gtm 479 (by decide +kernel) (by decide +kernel)
theorem kc_Tk_place : Cond.code ⟨"PascalMachine$Tokens", "place", "()I"⟩ prog_8_method_13_code 1 (some .int) ∈ gt := gtm 500 (by decide +kernel) (by decide +kernel)
theorem kc_Tk_content : Cond.code ⟨"PascalMachine$Tokens", "content", "()J"⟩ prog_8_method_14_code 1 (some .long) ∈ gt := gtm 484 (by decide +kernel) (by decide +kernel)
theorem kc_Tk_isBefore : Cond.code ⟨"PascalMachine$Tokens", "isBefore", "(LPascalMachine$Kind;)Z"⟩ prog_8_method_15_code 2 (some .boolean) ∈ gt := gtm 571 (by decide +kernel) (by decide +kernel)
theorem kc_Tk_advance : Cond.code ⟨"PascalMachine$Tokens", "advance", "()V"⟩ prog_8_method_16_code 1 none ∈ gt := gtm 467 (by decide +kernel) (by decide +kernel)
theorem kc_Tk_accept : Cond.code ⟨"PascalMachine$Tokens", "accept", "(LPascalMachine$Kind;)Z"⟩ prog_8_method_17_code 2 (some .boolean) ∈ gt := gtm 463 (by decide +kernel) (by decide +kernel)
theorem kc_JS_length : Cond.code ⟨"java/lang/String", "length", "()I"⟩ prog_19_method_54_code 1 (some .int) ∈ gt := gtm 391 (by decide +kernel) (by decide +kernel)
theorem kc_JS_coder : Cond.code ⟨"java/lang/String", "coder", "()B"⟩ prog_19_method_152_code 1 (some .byte) ∈ gt := gtm 395 (by decide +kernel) (by decide +kernel)
theorem kc_JS_charAt : Cond.code ⟨"java/lang/String", "charAt", "(I)C"⟩ prog_19_method_56_code 2 (some .char) ∈ gt := gtm 401 (by decide +kernel) (by decide +kernel)
theorem kc_JS_isLatin1 : Cond.code ⟨"java/lang/String", "isLatin1", "()Z"⟩ prog_19_method_154_code 1 (some .boolean) ∈ gt := gtm 405 (by decide +kernel) (by decide +kernel)
theorem kc_JL_charAt : Cond.code ⟨"java/lang/StringLatin1", "charAt", "([BI)C"⟩ prog_20_method_2_code 2 (some .char) ∈ gt := gtm 408 (by decide +kernel) (by decide +kernel)
theorem kc_JS_checkIndex : Cond.code ⟨"java/lang/String", "checkIndex", "(II)V"⟩ prog_19_method_155_code 2 none ∈ gt := gtm 411 (by decide +kernel) (by decide +kernel)
theorem kc_JM_min : Cond.code ⟨"java/lang/Math", "min", "(II)I"⟩ prog_17_method_69_code 2 (some .int) ∈ gt := gtm 449 (by decide +kernel) (by decide +kernel)
theorem kc_JM_max : Cond.code ⟨"java/lang/Math", "max", "(II)I"⟩ prog_17_method_65_code 2 (some .int) ∈ gt := gtm 773 (by decide +kernel) (by decide +kernel)
theorem kc_JE_ordinal : Cond.code ⟨"java/lang/Enum", "ordinal", "()I"⟩ prog_12_method_2_code 1 (some .int) ∈ gt := gtm 565 (by decide +kernel) (by decide +kernel)
theorem kc_JP_checkIndex : Cond.code ⟨"jdk/internal/util/Preconditions", "checkIndex", "(IILjava/util/function/BiFunction;)I"⟩ prog_24_method_11_code 3 (some .int) ∈ gt := gtm 416 (by decide +kernel) (by decide +kernel)
end
section
/-! ===== the atoms of the throws ===== -/
abbrev xN : List String := ["java/lang/RuntimeException", "java/lang/Exception"]
abbrev IAE : String := "java/lang/IllegalArgumentException"
abbrev ISE : String := "java/lang/IllegalStateException"
abbrev NSE : String := "java/util/NoSuchElementException"
abbrev ARE : String := "java/lang/ArithmeticException"
abbrev IOE : String := "java/lang/IndexOutOfBoundsException"
/-- words of the tables that a throw asks, beside the good ones -/
def xWords : List Cond := [.castable "java/lang/IllegalArgumentException" "java/lang/IllegalArgumentException", .castable "java/lang/IllegalStateException" "java/lang/IllegalStateException", .castable "java/util/NoSuchElementException" "java/util/NoSuchElementException", .castable "java/lang/ArithmeticException" "java/lang/ArithmeticException", .castable "java/lang/IndexOutOfBoundsException" "java/lang/IndexOutOfBoundsException",
  .declares ⟨"java/lang/RuntimeException", "<init>", "()V"⟩, .declares ⟨"java/lang/Exception", "<init>", "()V"⟩, .declares ⟨"java/lang/Throwable", "<init>", "()V"⟩]
def oaB (w : Cond) : Bool := (decide (w ∈ lw_tbl) && goodWord w) || decide (w ∈ xWords) || decide (w = .isRef (.static Bundle.tN "UNASSIGNED_STACK" Bundle.steD)) || decide (w = .isRef (.static Bundle.tN "SUPPRESSED_SENTINEL" Bundle.listD)) || decide (w = .laysStatic Bundle.tN "UNASSIGNED_STACK" Bundle.steD) || decide (w = .laysStatic Bundle.tN "SUPPRESSED_SENTINEL" Bundle.listD)
theorem oa_PM_41 : (Bundle.ownAtoms0 "PascalMachine" 41 "java/lang/IllegalArgumentException" xN).all oaB = true := by decide +kernel
theorem oa_PM_44 : (Bundle.ownAtoms0 "PascalMachine" 44 "java/lang/IllegalStateException" xN).all oaB = true := by decide +kernel
theorem oa_PM_65 : (Bundle.ownAtoms0 "PascalMachine" 65 "java/util/NoSuchElementException" xN).all oaB = true := by decide +kernel
theorem oa_Cp_83 : (Bundle.ownAtoms0 "PascalMachine$Compiler" 83 "java/lang/IllegalArgumentException" xN).all oaB = true := by decide +kernel
theorem oa_Mc_122 : (Bundle.ownAtoms0 "PascalMachine$Machine" 122 "java/lang/IllegalStateException" xN).all oaB = true := by decide +kernel
theorem oa_Mc_137 : (Bundle.ownAtoms0 "PascalMachine$Machine" 137 "java/lang/ArithmeticException" xN).all oaB = true := by decide +kernel
theorem oa_Mc_140 : (Bundle.ownAtoms0 "PascalMachine$Machine" 140 "java/lang/IndexOutOfBoundsException" xN).all oaB = true := by decide +kernel
end
section
/-! ===== the judgement of this proof: a method's walk over ONE fixed list of cells ===== -/
def Rm (h : Nat) : Room := { frames := h + 8, cells := 1, slots := 6, locals := 40 * h + 200 }
/-- where the classes and slots lie, the array classes, the places that may be written, what is constant -/
abbrev Gm : Type := va_G × List (ClassId × FieldType) × (Nat → Prop) × (State → Heap → Prop)
/-- the places that may be written are places of the list -/
def hAw (A : Nat → Prop) (ws : va_W) : Prop := ∀ q : Nat, A q → ∃ (k : Nat) (e : va_E), ws[k]? = some (q, e)
theorem hAw.set {A : Nat → Prop} {ws : va_W} {p a : Nat} {e0 e : va_E} (h : hAw A ws) (hp : ws[p]? = some (a, e0)) : hAw A (ws.set p (a, e)) := by
  intro q hq
  obtain ⟨k, e1, hk⟩ := h q hq
  have hl := (List.getElem?_eq_some_iff.mp hp).1
  by_cases hkp : k = p
  · subst hkp
    rw [hp] at hk
    cases hk
    exact ⟨k, e, List.getElem?_set_self hl⟩
  · exact ⟨k, e1, by rw [List.getElem?_set_ne (Ne.symm hkp)]; exact hk⟩
def KI (G : Gm) (ws : va_W) (U : State) (H : Heap) : Prop := va_K G.1 classes G.2.1 U ∧ va_P G.1 classes ws H ∧ va_D G.2.2.1 ws ∧ hAw G.2.2.1 ws
theorem va_at.novm {D : va_G} {cl : List vw_C} {q : Nat × va_E} {H : Heap} (h : va_at D cl q H) : ∃ cell : Cell, H[q.1]? = some cell ∧ cell.vm = .none := by
  obtain ⟨a, e⟩ := q
  cases e with
  | inl x =>
    refine ⟨_, h, ?_⟩
    obtain ⟨c, n, y⟩ := x
    rcases y with f | f | f | f | f <;> rfl
  | inr o =>
    obtain ⟨r, h1, cell, h2, h3, h4, -⟩ := h
    exact ⟨cell, h2, h4⟩
theorem KI.nost {G : Gm} {ws : va_W} {U : State} {H : Heap} (h : KI G ws U H) : ∀ (q : Nat) (cell : Cell), G.2.2.1 q → H[q]? = some cell → cell.vm.isStatics = false := by
  intro q cell hq hc
  obtain ⟨k, e, hk⟩ := h.2.2.2 q hq
  obtain ⟨c2, h1, h2⟩ := (h.2.1 k _ hk).novm
  have h1' : H[q]? = some c2 := h1
  rw [hc] at h1'
  cases h1'
  rw [h2]; rfl
def Kok (G : Gm) : Prop := (∀ (U : State) (H H1 : Heap), (∀ a : Nat, a < H.size → ¬ G.2.2.1 a → H1[a]? = H[a]?) → G.2.2.2 U H → G.2.2.2 U H1) ∧ ∀ (u U : State) (H : Heap), u.vm.Alike U.vm → G.2.2.2 u H → G.2.2.2 U H
theorem KI.moved {G : Gm} {ws : va_W} {u U : State} {H : Heap} (hvm : u.vm.Alike U.vm) (h : KI G ws u H) : KI G ws U H := ⟨va_K.moved hvm h.1, h.2⟩
/-- how a method ends: it returns a value, or it throws an object of a class -/
abbrev Oc : Type := Option Value ⊕ String
def XQ (G : Gm) (o : Oc) (ws' : va_W) : Array Value → State → Outcome → State → Prop := fun _ s0 oc t =>
  KI G ws' t t.heap ∧ va_F G.2.2.1 s0 t ∧ s0.WarmedH t.vm ∧ ∃ L : List Loc, (∀ z ∈ L, G.2.2.1 z.base) ∧
    match o with
    | .inl v => oc = .returned v ∧ s0.sameButNew ({ t with vm := s0.vm } : State) L 0 0
    | .inr E => ∃ (q : Addr) (ce : Cell), oc = .threw q ∧ t.heap[q]? = some ce ∧ ce.vm = .none ∧ s0.vm.findClass E = some ce.cls ∧ s0.sameButNew ({ t with vm := s0.vm } : State) L 1 6
def XP (G : Gm) (ws : va_W) (U : State) : Prop := Kok G ∧ KI G ws U U.heap ∧ G.2.2.2 U U.heap
/-- THE CONTRACT: from the cells ws, with the arguments av, the method ends by o with the cells ws' -/
def XC (l : Launch) (G : Gm) (h : Nat) (y : MethodName) (cc : ByteArray) (nL : Nat) (ret : Option FieldType) (av : List Value) (ws : va_W) (o : Oc) (ws' : va_W) : Prop :=
  MetFree l y (headSpec (Cond.code y cc nL ret :: gt) (Rm h)) (va_Pc av (XP G ws)) (fun _ _ _ _ _ => True) (XQ G o ws')
/-- what stands fast within a body -/
def Cx (p : Program) (s : State) (m : MethodId) (args : Array Value) (meth : Method) (c : Code) (G : Gm) (cc : ByteArray) (nL : Nat) (ret : Option FieldType) (own : String) : Prop :=
  p.tables.exec = Jvm.exec ∧ c.code = cc ∧ c.maxLocals = nL ∧ s.vm.findClass own = some m.cls ∧ (∀ w ∈ gt, w.before args s = true) ∧ meth.sig.returnType = ret ∧ meth.locks = false ∧ c.exceptionTable.isEmpty = true ∧ Kok G ∧ G.2.2.2 s s.heap ∧ ∀ (q : Nat) (cell : Cell), G.2.2.1 q → s.heap[q]? = some cell → cell.vm.isStatics = false
/-- the end of a body -/
def XE (below : List Frame) (G : Gm) (o : Oc) (ws' : va_W) (a : Array Value) (s : State) : State → Prop := fun t => ∃ oc, t.status = .running ∧ Ended t below oc ∧ XQ G o ws' a s oc t
/-- the walk stands at pc, with the locals lv, the stack sk, the cells ws -/
def V (p : Program) (l : Launch) (e : Env) (R : Room) (s : State) (m : MethodId) (args : Array Value) (below : List Frame) (meth : Method) (c : Code) (G : Gm) (nL : Nat) (cells slots : Nat) (Q : State → Prop) (ws : va_W) (pc : Nat) (lv : List (Nat × Value)) (sk : List Value) : Prop :=
  ∀ (H : Heap) (locs : List Loc) (ls : Array Slot), KI G ws s H → va_S G.2.2.1 s.heap H locs → lv_has ls nL lv → W p l e R s m args below meth c H locs cells slots Q (F0 m pc ls sk)
theorem XC.ofV {l : Launch} {G : Gm} {h : Nat} {y : MethodName} {cc : ByteArray} {nL : Nat} {ret : Option FieldType} {av : List Value} {ws : va_W} {o : Oc} {ws' : va_W} (hy : plainName y.cls = true) (hlen : Nat.ble (lg_sl av).length nL = true)
    (body : ∀ (p : Program) (e : Env) (s : State) (m : MethodId) (below : List Frame) (meth : Method) (c : Code), Cx p s m av.toArray meth c G cc nL ret y.cls → meth.name = y.name → V p l e (Rm h) s m av.toArray below meth c G nL 0 0 (XE below G o ws' av.toArray s) ws 0 (lv_args 0 av) []) :
    XC l G h y cc nL ret av ws o ws' := by
  refine MetFree.of_bodyS (code := cc) (maxLocals := nL) (ret := ret) hy ?_ ?_
  · intro args s m h hn
    obtain ⟨meth, c, h1, h2, h3, h4, h5, h6, -, -⟩ := Cond.code_spec hn (atoms_spec (ws := Cond.code y cc nL ret :: gt) h _ List.mem_cons_self)
    exact ⟨meth, c, h1, h2, h3, h4, h5, h6⟩
  · intro p e s m args below meth c s₁ B hml hP _
    obtain ⟨rfl, hk, hKI, hK⟩ := hP
    have hts0 := atoms_spec (ws := Cond.code y cc nL ret :: gt) B.pre
    have hh0 : s₁.heap = s.heap := by rw [B.state]; rfl
    have hE := B.noHandlers (hts0 _ List.mem_cons_self)
    have hl := lv_entry av (n := nL) (Nat.le_of_ble_eq_true hlen)
    have V0 := body p e s m below meth c ⟨B.exec, B.bytes, hml, findClass_of_methodNamed B.named, fun w hw => hts0 w (List.mem_cons_of_mem _ hw), B.returns, B.notSynchronized, hE, hk, hK, hKI.nost⟩ (name_of_methodNamed B.named B.method).1 s.heap [] _ hKI va_S.rf hl
    rw [← lg_entry_eq] at V0
    obtain ⟨t, a1, oc, b1, b2, b3⟩ := V0 s₁ hh0 (Stand.of_body B)
    exact ⟨t, oc, a1, b1, b2, b3⟩
/-! locals -/
def lk (lv : List (Nat × Value)) (i : Nat) : Option Value := match lv with
  | [] => none
  | q :: t => if q.1 = i then some q.2 else lk t i
theorem lk_mem {lv : List (Nat × Value)} {i : Nat} {v : Value} (h : lk lv i = some v) : (i, v) ∈ lv := by
  induction lv with
  | nil => simp [lk] at h
  | cons q t ih =>
    unfold lk at h
    split at h
    · rename_i e
      cases h; subst e
      exact List.mem_cons_self
    · exact List.mem_cons_of_mem _ (ih h)
def lins (i : Nat) (v : Value) : List (Nat × Value) → List (Nat × Value)
  | [] => [(i, v)]
  | q :: t => if i < q.1 then (i, v) :: q :: t else q :: lins i v t
theorem lins_mem {i : Nat} {v : Value} {l : List (Nat × Value)} {q : Nat × Value} (h : q ∈ lins i v l) : q = (i, v) ∨ q ∈ l := by
  induction l with
  | nil => simp [lins] at h; exact Or.inl h
  | cons a t ih =>
    unfold lins at h
    split at h
    · rcases List.mem_cons.mp h with h | h
      · exact Or.inl h
      · exact Or.inr h
    · rcases List.mem_cons.mp h with h | h
      · exact Or.inr (by rw [h]; exact List.mem_cons_self)
      · rcases ih h with h | h
        · exact Or.inl h
        · exact Or.inr (List.mem_cons_of_mem _ h)
/-- a value of one word stored at i; of two words -/
def pt (i : Nat) (v : Value) (lv : List (Nat × Value)) : List (Nat × Value) := lins i v (lv.filter (fun q => !(q.1 == i) && !(q.1 + 1 == i && q.2.category == 2)))
def pt2 (i : Nat) (v : Value) (lv : List (Nat × Value)) : List (Nat × Value) := lins i v (lv.filter (fun q => !(q.1 == i) && (!(q.1 == i + 1) && !(q.1 + 1 == i && q.2.category == 2))))
theorem lv_pt {ls : Array Slot} {nL i : Nat} {v : Value} {l : List (Nat × Value)} (h : lv_has ls nL ((i, v) :: l)) : lv_has ls nL (lins i v l) := ⟨h.1, h.2.1, fun q hq => h.2.2 q (by
  rcases lins_mem hq with h | h
  · rw [h]; exact List.mem_cons_self
  · exact List.mem_cons_of_mem _ h)⟩
theorem lv_lk {ls : Array Slot} {nL i : Nat} {v : Value} {lv : List (Nat × Value)} (h : lv_has ls nL lv) (hk : lk lv i = some v) : ls[i]? = some (.val v) := h.2.2 _ (lk_mem hk)
section VR
variable {p : Program} {l : Launch} {e : Env} {R : Room} {s : State} {m : MethodId} {args : Array Value} {below : List Frame} {meth : Method} {c : Code} {G : Gm} {nL cells slots : Nat} {Q : State → Prop} {ws ws' : va_W} {pc : Nat} {lv lv' : List (Nat × Value)} {sk rest : List Value}
variable {cc : ByteArray} {ret : Option FieldType} {own : String}
theorem V.eqw (h : ws = ws') (k : V p l e R s m args below meth c G nL cells slots Q ws' pc lv sk) : V p l e R s m args below meth c G nL cells slots Q ws pc lv sk := h ▸ k
theorem V.eqs {sk' : List Value} (h : sk = sk') (k : V p l e R s m args below meth c G nL cells slots Q ws pc lv sk') : V p l e R s m args below meth c G nL cells slots Q ws pc lv sk := h ▸ k
theorem V.eql (h : ∀ q ∈ lv', q ∈ lv) (k : V p l e R s m args below meth c G nL cells slots Q ws pc lv' sk) : V p l e R s m args below meth c G nL cells slots Q ws pc lv sk := fun H locs ls a b hl => k H locs ls a b ⟨hl.1, hl.2.1, fun q hq => hl.2.2 q (h q hq)⟩
theorem V.pick (ks : List Nat) (h : lv_pick lv ks = lv') (k : V p l e R s m args below meth c G nL cells slots Q ws pc lv' sk) : V p l e R s m args below meth c G nL cells slots Q ws pc lv sk := fun H locs ls a b hl => k H locs ls a b (lv_sub hl ks h)
theorem V.lvs (h : lv = lv') (k : V p l e R s m args below meth c G nL cells slots Q ws pc lv' sk) : V p l e R s m args below meth c G nL cells slots Q ws pc lv sk := h ▸ k
/-! ends -/
theorem V.vret (C : Cx p s m args meth c G cc nL none own) (hd : decode cc pc = .ok (.return_, 1)) {o : Oc} (ho : o = .inl none) (hw : ws = ws') : V p l e R s m args below meth c G nL 0 0 (XE below G o ws' args s) ws pc lv [] := by
  subst ho; subst hw
  obtain ⟨hx, hb, hml, hown, hts, hr, hlk, hE, hk, hK, hns⟩ := C
  intro H locs ls hI hS hl T hT X
  obtain ⟨t, a, oc, b1, b2, ⟨q1, q2, q3⟩, L, q4, q5⟩ := W.vret (free := G.2.2.1) (Qc := fun _ s0 oc t => oc = .returned none ∧ KI G ws t t.heap ∧ va_F G.2.2.1 s0 t) hx hb hr (fun t ht hW => ⟨rfl, by rw [ht]; exact hI.moved hW.alike, hS.F ht⟩) hS.2.2 hd hlk T hT X
  exact ⟨t, a, oc, b1, b2, q2, q3, q4.2.1, L, q5, q1, q4.2.2⟩
theorem V.iret (C : Cx p s m args meth c G cc nL (some .int) own) (hd : decode cc pc = .ok (.ireturn, 1)) {v : Int32} {o : Oc} (ho : o = .inl (some (.int v))) (hw : ws = ws') : V p l e R s m args below meth c G nL 0 0 (XE below G o ws' args s) ws pc lv [.int v] := by
  subst ho; subst hw
  obtain ⟨hx, hb, hml, hown, hts, hr, hlk, hE, hk, hK, hns⟩ := C
  intro H locs ls hI hS hl T hT X
  obtain ⟨t, a, oc, b1, b2, ⟨q1, q2, q3⟩, L, q4, q5⟩ := W.iret (free := G.2.2.1) (Qc := fun _ s0 oc t => oc = .returned (some (.int v)) ∧ KI G ws t t.heap ∧ va_F G.2.2.1 s0 t) hx hb hr (fun t ht hW => ⟨rfl, by rw [ht]; exact hI.moved hW.alike, hS.F ht⟩) hS.2.2 hd hlk T hT X
  exact ⟨t, a, oc, b1, b2, q2, q3, q4.2.1, L, q5, q1, q4.2.2⟩
theorem V.zret (C : Cx p s m args meth c G cc nL (some .boolean) own) (hd : decode cc pc = .ok (.ireturn, 1)) {v : Int32} (hv : v = 0 ∨ v = 1) {o : Oc} (ho : o = .inl (some (.int v))) (hw : ws = ws') : V p l e R s m args below meth c G nL 0 0 (XE below G o ws' args s) ws pc lv [.int v] := by
  subst ho; subst hw
  obtain ⟨hx, hb, hml, hown, hts, hr, hlk, hE, hk, hK, hns⟩ := C
  intro H locs ls hI hS hl T hT X
  have hn : narrow .boolean (.int v) = .int v := by rcases hv with rfl | rfl <;> decide +kernel
  obtain ⟨t, a, oc, b1, b2, ⟨q1, q2, q3⟩, L, q4, q5⟩ := W.zret (free := G.2.2.1) (Qc := fun _ s0 oc t => oc = .returned (some (.int v)) ∧ KI G ws t t.heap ∧ va_F G.2.2.1 s0 t) hx hb hr hn (fun t ht hW => ⟨rfl, by rw [ht]; exact hI.moved hW.alike, hS.F ht⟩) hS.2.2 hd hlk T hT X
  exact ⟨t, a, oc, b1, b2, q2, q3, q4.2.1, L, q5, q1, q4.2.2⟩
theorem V.lret (C : Cx p s m args meth c G cc nL (some .long) own) (hd : decode cc pc = .ok (.lreturn, 1)) {v : Int64} {o : Oc} (ho : o = .inl (some (.long v))) (hw : ws = ws') : V p l e R s m args below meth c G nL 0 0 (XE below G o ws' args s) ws pc lv [.long v] := by
  subst ho; subst hw
  obtain ⟨hx, hb, hml, hown, hts, hr, hlk, hE, hk, hK, hns⟩ := C
  intro H locs ls hI hS hl T hT X
  obtain ⟨t, a, oc, b1, b2, ⟨q1, q2, q3⟩, L, q4, q5⟩ := W.lret (free := G.2.2.1) (Qc := fun _ s0 oc t => oc = .returned (some (.long v)) ∧ KI G ws t t.heap ∧ va_F G.2.2.1 s0 t) hx hb hr (fun t ht hW => ⟨rfl, by rw [ht]; exact hI.moved hW.alike, hS.F ht⟩) hS.2.2 hd hlk T hT X
  exact ⟨t, a, oc, b1, b2, q2, q3, q4.2.1, L, q5, q1, q4.2.2⟩
theorem V.aret {nm : String} (C : Cx p s m args meth c G cc nL (some (.object nm)) own) (hd : decode cc pc = .ok (.areturn, 1)) {v : Nat} {o : Oc} (ho : o = .inl (some (.ref v))) (hw : ws = ws') : V p l e R s m args below meth c G nL 0 0 (XE below G o ws' args s) ws pc lv [.ref v] := by
  subst ho; subst hw
  obtain ⟨hx, hb, hml, hown, hts, hr, hlk, hE, hk, hK, hns⟩ := C
  intro H locs ls hI hS hl T hT X
  obtain ⟨t, a, oc, b1, b2, ⟨q1, q2, q3⟩, L, q4, q5⟩ := W.aret (free := G.2.2.1) (v := .ref v) (Qc := fun _ s0 oc t => oc = .returned (some (.ref v)) ∧ KI G ws t t.heap ∧ va_F G.2.2.1 s0 t) hx hb hr (Or.inl ⟨_, rfl⟩) (Or.inr ⟨_, rfl⟩) (fun t ht hW => ⟨rfl, by rw [ht]; exact hI.moved hW.alike, hS.F ht⟩) hS.2.2 hd hlk T hT X
  exact ⟨t, a, oc, b1, b2, q2, q3, q4.2.1, L, q5, q1, q4.2.2⟩
end VR
end
section
/-! ===== an instruction, a row, over V ===== -/
/-- a truth as the machine has it -/
def bI (b : Bool) : Int32 := if b then nI 1 else nI 0
section VS
variable {p : Program} {l : Launch} {e : Env} {R : Room} {s : State} {m : MethodId} {args : Array Value} {below : List Frame} {meth : Method} {c : Code} {G : Gm} {nL cells slots : Nat} {Q : State → Prop} {ws ws' : va_W} {pc : Nat} {lv lv' : List (Nat × Value)} {sk rest : List Value}
variable {cc : ByteArray} {ret : Option FieldType} {own : String}
theorem V.iconst (C : Cx p s m args meth c G cc nL ret own) {n : Int} {v : Int32} (hd : decode cc pc = .ok (.iconst n, 1)) (hv : Int32.ofInt n = v) (kk : V p l e R s m args below meth c G nL cells slots Q ws (pc + 1) lv (.int v :: sk)) : V p l e R s m args below meth c G nL cells slots Q ws pc lv (sk) := by
  obtain ⟨hx, hb, hml, hown, hts, hr, hlk, hE, hk, hK, hns⟩ := C
  intro H locs ls hI hS hl
  exact lv_iconst hx hb hd hv (kk H locs ls hI hS hl)
theorem V.bipush (C : Cx p s m args meth c G cc nL ret own) {n : Int} {v : Int32} (hd : decode cc pc = .ok (.bipush n, 2)) (hv : (Int8.ofInt n).toInt32 = v) (kk : V p l e R s m args below meth c G nL cells slots Q ws (pc + 2) lv (.int v :: sk)) : V p l e R s m args below meth c G nL cells slots Q ws pc lv (sk) := by
  obtain ⟨hx, hb, hml, hown, hts, hr, hlk, hE, hk, hK, hns⟩ := C
  intro H locs ls hI hS hl
  exact lv_bipush hx hb hd hv (kk H locs ls hI hS hl)
theorem V.sipush (C : Cx p s m args meth c G cc nL ret own) {n : Int} {v : Int32} (hd : decode cc pc = .ok (.sipush n, 3)) (hv : (Int16.ofInt n).toInt32 = v) (kk : V p l e R s m args below meth c G nL cells slots Q ws (pc + 3) lv (.int v :: sk)) : V p l e R s m args below meth c G nL cells slots Q ws pc lv (sk) := by
  obtain ⟨hx, hb, hml, hown, hts, hr, hlk, hE, hk, hK, hns⟩ := C
  intro H locs ls hI hS hl
  exact lv_sipush hx hb hd hv (kk H locs ls hI hS hl)
theorem V.lconst (C : Cx p s m args meth c G cc nL ret own) {n : Fin 2} {v : Int64} (hd : decode cc pc = .ok (.lconst n, 1)) (hv : Int64.ofNat (n : Nat) = v) (kk : V p l e R s m args below meth c G nL cells slots Q ws (pc + 1) lv (.long v :: sk)) : V p l e R s m args below meth c G nL cells slots Q ws pc lv (sk) := by
  obtain ⟨hx, hb, hml, hown, hts, hr, hlk, hE, hk, hK, hns⟩ := C
  intro H locs ls hI hS hl
  exact lv_lconst hx hb hd hv (kk H locs ls hI hS hl)
theorem V.ldc (C : Cx p s m args meth c G cc nL ret own) {i : Nat} {v : Int32} (hd : decode cc pc = .ok (.ldc i, 2)) (hw : Cond.constant own i v ∈ gt) (kk : V p l e R s m args below meth c G nL cells slots Q ws (pc + 2) lv (.int v :: sk)) : V p l e R s m args below meth c G nL cells slots Q ws pc lv (sk) := by
  obtain ⟨hx, hb, hml, hown, hts, hr, hlk, hE, hk, hK, hns⟩ := C
  intro H locs ls hI hS hl
  exact lv_ldc hx hb hown (hts _ hw) hd (kk H locs ls hI hS hl)
theorem V.ldc2 (C : Cx p s m args meth c G cc nL ret own) {i : Nat} {v : Int64} (hd : decode cc pc = .ok (.ldc2_w i, 3)) (hw : Cond.constantLong own i v ∈ gt) (kk : V p l e R s m args below meth c G nL cells slots Q ws (pc + 3) lv (.long v :: sk)) : V p l e R s m args below meth c G nL cells slots Q ws pc lv (sk) := by
  obtain ⟨hx, hb, hml, hown, hts, hr, hlk, hE, hk, hK, hns⟩ := C
  intro H locs ls hI hS hl
  exact lv_ldc2 hx hb hown (hts _ hw) hd (kk H locs ls hI hS hl)
theorem V.iload_n (C : Cx p s m args meth c G cc nL ret own) {k : Fin 4} {x : Int32} (hd : decode cc pc = .ok (.iload_n k, 1)) (hv : lk lv k = some (.int x)) (kk : V p l e R s m args below meth c G nL cells slots Q ws (pc + 1) lv (.int x :: sk)) : V p l e R s m args below meth c G nL cells slots Q ws pc lv (sk) := by
  obtain ⟨hx, hb, hml, hown, hts, hr, hlk, hE, hk, hK, hns⟩ := C
  intro H locs ls hI hS hl
  exact lv_iload_n hx hb hd rfl (lv_lk hl hv) (kk H locs ls hI hS hl)
theorem V.iload (C : Cx p s m args meth c G cc nL ret own) {i : Nat} {x : Int32} (hd : decode cc pc = .ok (.iload i, 2)) (hv : lk lv i = some (.int x)) (kk : V p l e R s m args below meth c G nL cells slots Q ws (pc + 2) lv (.int x :: sk)) : V p l e R s m args below meth c G nL cells slots Q ws pc lv (sk) := by
  obtain ⟨hx, hb, hml, hown, hts, hr, hlk, hE, hk, hK, hns⟩ := C
  intro H locs ls hI hS hl
  exact lv_iload hx hb hd (lv_lk hl hv) (kk H locs ls hI hS hl)
theorem V.istore_n (C : Cx p s m args meth c G cc nL ret own) {k : Fin 4} {x : Int32} (hd : decode cc pc = .ok (.istore_n k, 1)) (hn : (k : Nat) < nL) (hv : pt k (.int x) lv = lv') (kk : V p l e R s m args below meth c G nL cells slots Q ws (pc + 1) lv' (sk)) : V p l e R s m args below meth c G nL cells slots Q ws pc lv (.int x :: sk) := by
  obtain ⟨hx, hb, hml, hown, hts, hr, hlk, hE, hk, hK, hns⟩ := C
  intro H locs ls hI hS hl
  subst hv
  exact lv_istore_n hx hb hd rfl hl hn rfl (fun ls' hl' => kk H locs ls' hI hS (lv_pt hl'))
theorem V.istore (C : Cx p s m args meth c G cc nL ret own) {i : Nat} {x : Int32} (hd : decode cc pc = .ok (.istore i, 2)) (hn : i < nL) (hv : pt i (.int x) lv = lv') (kk : V p l e R s m args below meth c G nL cells slots Q ws (pc + 2) lv' (sk)) : V p l e R s m args below meth c G nL cells slots Q ws pc lv (.int x :: sk) := by
  obtain ⟨hx, hb, hml, hown, hts, hr, hlk, hE, hk, hK, hns⟩ := C
  intro H locs ls hI hS hl
  subst hv
  exact lv_istore hx hb hd hl hn rfl (fun ls' hl' => kk H locs ls' hI hS (lv_pt hl'))
theorem V.lload_n (C : Cx p s m args meth c G cc nL ret own) {k : Fin 4} {x : Int64} (hd : decode cc pc = .ok (.lload_n k, 1)) (hv : lk lv k = some (.long x)) (kk : V p l e R s m args below meth c G nL cells slots Q ws (pc + 1) lv (.long x :: sk)) : V p l e R s m args below meth c G nL cells slots Q ws pc lv (sk) := by
  obtain ⟨hx, hb, hml, hown, hts, hr, hlk, hE, hk, hK, hns⟩ := C
  intro H locs ls hI hS hl
  exact lv_lload_n hx hb hd rfl (lv_lk hl hv) (kk H locs ls hI hS hl)
theorem V.lload (C : Cx p s m args meth c G cc nL ret own) {i : Nat} {x : Int64} (hd : decode cc pc = .ok (.lload i, 2)) (hv : lk lv i = some (.long x)) (kk : V p l e R s m args below meth c G nL cells slots Q ws (pc + 2) lv (.long x :: sk)) : V p l e R s m args below meth c G nL cells slots Q ws pc lv (sk) := by
  obtain ⟨hx, hb, hml, hown, hts, hr, hlk, hE, hk, hK, hns⟩ := C
  intro H locs ls hI hS hl
  exact lv_lload hx hb hd (lv_lk hl hv) (kk H locs ls hI hS hl)
theorem V.lstore_n (C : Cx p s m args meth c G cc nL ret own) {k : Fin 4} {x : Int64} (hd : decode cc pc = .ok (.lstore_n k, 1)) (hn : (k : Nat) + 1 < nL) (hv : pt2 k (.long x) lv = lv') (kk : V p l e R s m args below meth c G nL cells slots Q ws (pc + 1) lv' (sk)) : V p l e R s m args below meth c G nL cells slots Q ws pc lv (.long x :: sk) := by
  obtain ⟨hx, hb, hml, hown, hts, hr, hlk, hE, hk, hK, hns⟩ := C
  intro H locs ls hI hS hl
  subst hv
  exact lv_lstore_n hx hb hd rfl hl hn rfl (fun ls' hl' => kk H locs ls' hI hS (lv_pt hl'))
theorem V.lstore (C : Cx p s m args meth c G cc nL ret own) {i : Nat} {x : Int64} (hd : decode cc pc = .ok (.lstore i, 2)) (hn : i + 1 < nL) (hv : pt2 i (.long x) lv = lv') (kk : V p l e R s m args below meth c G nL cells slots Q ws (pc + 2) lv' (sk)) : V p l e R s m args below meth c G nL cells slots Q ws pc lv (.long x :: sk) := by
  obtain ⟨hx, hb, hml, hown, hts, hr, hlk, hE, hk, hK, hns⟩ := C
  intro H locs ls hI hS hl
  subst hv
  exact lv_lstore hx hb hd hl hn rfl (fun ls' hl' => kk H locs ls' hI hS (lv_pt hl'))
theorem V.aload_n (C : Cx p s m args meth c G cc nL ret own) {k : Fin 4} {x : Nat} (hd : decode cc pc = .ok (.aload_n k, 1)) (hv : lk lv k = some (.ref x)) (kk : V p l e R s m args below meth c G nL cells slots Q ws (pc + 1) lv (.ref x :: sk)) : V p l e R s m args below meth c G nL cells slots Q ws pc lv (sk) := by
  obtain ⟨hx, hb, hml, hown, hts, hr, hlk, hE, hk, hK, hns⟩ := C
  intro H locs ls hI hS hl
  exact lv_aload_n hx hb hd rfl (lv_lk hl hv) (kk H locs ls hI hS hl)
theorem V.aload (C : Cx p s m args meth c G cc nL ret own) {i : Nat} {x : Nat} (hd : decode cc pc = .ok (.aload i, 2)) (hv : lk lv i = some (.ref x)) (kk : V p l e R s m args below meth c G nL cells slots Q ws (pc + 2) lv (.ref x :: sk)) : V p l e R s m args below meth c G nL cells slots Q ws pc lv (sk) := by
  obtain ⟨hx, hb, hml, hown, hts, hr, hlk, hE, hk, hK, hns⟩ := C
  intro H locs ls hI hS hl
  exact lv_aload hx hb hd (lv_lk hl hv) (kk H locs ls hI hS hl)
theorem V.astore_n (C : Cx p s m args meth c G cc nL ret own) {k : Fin 4} {x : Nat} (hd : decode cc pc = .ok (.astore_n k, 1)) (hn : (k : Nat) < nL) (hv : pt k (.ref x) lv = lv') (kk : V p l e R s m args below meth c G nL cells slots Q ws (pc + 1) lv' (sk)) : V p l e R s m args below meth c G nL cells slots Q ws pc lv (.ref x :: sk) := by
  obtain ⟨hx, hb, hml, hown, hts, hr, hlk, hE, hk, hK, hns⟩ := C
  intro H locs ls hI hS hl
  subst hv
  exact lv_astore_n hx hb hd rfl hl hn rfl (fun ls' hl' => kk H locs ls' hI hS (lv_pt hl'))
theorem V.astore (C : Cx p s m args meth c G cc nL ret own) {i : Nat} {x : Nat} (hd : decode cc pc = .ok (.astore i, 2)) (hn : i < nL) (hv : pt i (.ref x) lv = lv') (kk : V p l e R s m args below meth c G nL cells slots Q ws (pc + 2) lv' (sk)) : V p l e R s m args below meth c G nL cells slots Q ws pc lv (.ref x :: sk) := by
  obtain ⟨hx, hb, hml, hown, hts, hr, hlk, hE, hk, hK, hns⟩ := C
  intro H locs ls hI hS hl
  subst hv
  exact lv_astore hx hb hd hl hn rfl (fun ls' hl' => kk H locs ls' hI hS (lv_pt hl'))
theorem V.iinc (C : Cx p s m args meth c G cc nL ret own) {i : Nat} {n : Int} {x v : Int32} (hd : decode cc pc = .ok (.iinc i n, 3)) (hv0 : lk lv i = some (.int x)) (hv1 : x + Int32.ofInt n = v) (hn : i < nL) (hv : pt i (.int v) lv = lv') (kk : V p l e R s m args below meth c G nL cells slots Q ws (pc + 3) lv' (sk)) : V p l e R s m args below meth c G nL cells slots Q ws pc lv (sk) := by
  obtain ⟨hx, hb, hml, hown, hts, hr, hlk, hE, hk, hK, hns⟩ := C
  intro H locs ls hI hS hl
  subst hv
  obtain ⟨k, hk⟩ := List.getElem?_of_mem (lk_mem hv0)
  exact lv_iinc hx hb hd hl hk hv1 hn rfl (fun ls' hl' => kk H locs ls' hI hS (lv_pt hl'))
theorem V.iadd (C : Cx p s m args meth c G cc nL ret own) {x y v : Int32} (hd : decode cc pc = .ok (.iadd, 1)) (hv : x + y = v) (kk : V p l e R s m args below meth c G nL cells slots Q ws (pc + 1) lv (.int v :: sk)) : V p l e R s m args below meth c G nL cells slots Q ws pc lv (.int y :: .int x :: sk) := by
  obtain ⟨hx, hb, hml, hown, hts, hr, hlk, hE, hk, hK, hns⟩ := C
  intro H locs ls hI hS hl
  subst hv
  exact lv_iadd hx hb hd (kk H locs ls hI hS hl)
theorem V.isub (C : Cx p s m args meth c G cc nL ret own) {x y v : Int32} (hd : decode cc pc = .ok (.isub, 1)) (hv : x - y = v) (kk : V p l e R s m args below meth c G nL cells slots Q ws (pc + 1) lv (.int v :: sk)) : V p l e R s m args below meth c G nL cells slots Q ws pc lv (.int y :: .int x :: sk) := by
  obtain ⟨hx, hb, hml, hown, hts, hr, hlk, hE, hk, hK, hns⟩ := C
  intro H locs ls hI hS hl
  subst hv
  exact lv_isub hx hb hd (kk H locs ls hI hS hl)
theorem V.imul (C : Cx p s m args meth c G cc nL ret own) {x y v : Int32} (hd : decode cc pc = .ok (.imul, 1)) (hv : x * y = v) (kk : V p l e R s m args below meth c G nL cells slots Q ws (pc + 1) lv (.int v :: sk)) : V p l e R s m args below meth c G nL cells slots Q ws pc lv (.int y :: .int x :: sk) := by
  obtain ⟨hx, hb, hml, hown, hts, hr, hlk, hE, hk, hK, hns⟩ := C
  intro H locs ls hI hS hl
  subst hv
  exact lv_imul hx hb hd (kk H locs ls hI hS hl)
theorem V.iand (C : Cx p s m args meth c G cc nL ret own) {x y v : Int32} (hd : decode cc pc = .ok (.iand, 1)) (hv : x &&& y = v) (kk : V p l e R s m args below meth c G nL cells slots Q ws (pc + 1) lv (.int v :: sk)) : V p l e R s m args below meth c G nL cells slots Q ws pc lv (.int y :: .int x :: sk) := by
  obtain ⟨hx, hb, hml, hown, hts, hr, hlk, hE, hk, hK, hns⟩ := C
  intro H locs ls hI hS hl
  subst hv
  exact lv_iand hx hb hd (kk H locs ls hI hS hl)
theorem V.ior (C : Cx p s m args meth c G cc nL ret own) {x y v : Int32} (hd : decode cc pc = .ok (.ior, 1)) (hv : x ||| y = v) (kk : V p l e R s m args below meth c G nL cells slots Q ws (pc + 1) lv (.int v :: sk)) : V p l e R s m args below meth c G nL cells slots Q ws pc lv (.int y :: .int x :: sk) := by
  obtain ⟨hx, hb, hml, hown, hts, hr, hlk, hE, hk, hK, hns⟩ := C
  intro H locs ls hI hS hl
  subst hv
  exact lv_ior hx hb hd (kk H locs ls hI hS hl)
theorem V.ishl (C : Cx p s m args meth c G cc nL ret own) {x y v : Int32} (hd : decode cc pc = .ok (.ishl, 1)) (hv : x <<< (y &&& 31) = v) (kk : V p l e R s m args below meth c G nL cells slots Q ws (pc + 1) lv (.int v :: sk)) : V p l e R s m args below meth c G nL cells slots Q ws pc lv (.int y :: .int x :: sk) := by
  obtain ⟨hx, hb, hml, hown, hts, hr, hlk, hE, hk, hK, hns⟩ := C
  intro H locs ls hI hS hl
  subst hv
  exact lv_ishl hx hb hd (kk H locs ls hI hS hl)
theorem V.ishr (C : Cx p s m args meth c G cc nL ret own) {x y v : Int32} (hd : decode cc pc = .ok (.ishr, 1)) (hv : x >>> (y &&& 31) = v) (kk : V p l e R s m args below meth c G nL cells slots Q ws (pc + 1) lv (.int v :: sk)) : V p l e R s m args below meth c G nL cells slots Q ws pc lv (.int y :: .int x :: sk) := by
  obtain ⟨hx, hb, hml, hown, hts, hr, hlk, hE, hk, hK, hns⟩ := C
  intro H locs ls hI hS hl
  subst hv
  exact lv_ishr hx hb hd (kk H locs ls hI hS hl)
theorem V.idiv (C : Cx p s m args meth c G cc nL ret own) {x y v : Int32} (hd : decode cc pc = .ok (.idiv, 1)) (hne : ¬ y = 0) (hv : x / y = v) (kk : V p l e R s m args below meth c G nL cells slots Q ws (pc + 1) lv (.int v :: sk)) : V p l e R s m args below meth c G nL cells slots Q ws pc lv (.int y :: .int x :: sk) := by
  obtain ⟨hx, hb, hml, hown, hts, hr, hlk, hE, hk, hK, hns⟩ := C
  intro H locs ls hI hS hl
  subst hv
  exact lv_idiv hx hb hd hne (kk H locs ls hI hS hl)
theorem V.irem (C : Cx p s m args meth c G cc nL ret own) {x y v : Int32} (hd : decode cc pc = .ok (.irem, 1)) (hne : ¬ y = 0) (hv : x - x / y * y = v) (kk : V p l e R s m args below meth c G nL cells slots Q ws (pc + 1) lv (.int v :: sk)) : V p l e R s m args below meth c G nL cells slots Q ws pc lv (.int y :: .int x :: sk) := by
  obtain ⟨hx, hb, hml, hown, hts, hr, hlk, hE, hk, hK, hns⟩ := C
  intro H locs ls hI hS hl
  subst hv
  exact lv_irem hx hb hd hne (kk H locs ls hI hS hl)
theorem V.ineg (C : Cx p s m args meth c G cc nL ret own) {x v : Int32} (hd : decode cc pc = .ok (.ineg, 1)) (hv : -x = v) (kk : V p l e R s m args below meth c G nL cells slots Q ws (pc + 1) lv (.int v :: sk)) : V p l e R s m args below meth c G nL cells slots Q ws pc lv (.int x :: sk) := by
  obtain ⟨hx, hb, hml, hown, hts, hr, hlk, hE, hk, hK, hns⟩ := C
  intro H locs ls hI hS hl
  subst hv
  exact lv_ineg hx hb hd (kk H locs ls hI hS hl)
theorem V.ladd (C : Cx p s m args meth c G cc nL ret own) {x y v : Int64} (hd : decode cc pc = .ok (.ladd, 1)) (hv : x + y = v) (kk : V p l e R s m args below meth c G nL cells slots Q ws (pc + 1) lv (.long v :: sk)) : V p l e R s m args below meth c G nL cells slots Q ws pc lv (.long y :: .long x :: sk) := by
  obtain ⟨hx, hb, hml, hown, hts, hr, hlk, hE, hk, hK, hns⟩ := C
  intro H locs ls hI hS hl
  subst hv
  exact lv_ladd hx hb hd (kk H locs ls hI hS hl)
theorem V.lsub (C : Cx p s m args meth c G cc nL ret own) {x y v : Int64} (hd : decode cc pc = .ok (.lsub, 1)) (hv : x - y = v) (kk : V p l e R s m args below meth c G nL cells slots Q ws (pc + 1) lv (.long v :: sk)) : V p l e R s m args below meth c G nL cells slots Q ws pc lv (.long y :: .long x :: sk) := by
  obtain ⟨hx, hb, hml, hown, hts, hr, hlk, hE, hk, hK, hns⟩ := C
  intro H locs ls hI hS hl
  subst hv
  exact lv_lsub hx hb hd (kk H locs ls hI hS hl)
theorem V.lmul (C : Cx p s m args meth c G cc nL ret own) {x y v : Int64} (hd : decode cc pc = .ok (.lmul, 1)) (hv : x * y = v) (kk : V p l e R s m args below meth c G nL cells slots Q ws (pc + 1) lv (.long v :: sk)) : V p l e R s m args below meth c G nL cells slots Q ws pc lv (.long y :: .long x :: sk) := by
  obtain ⟨hx, hb, hml, hown, hts, hr, hlk, hE, hk, hK, hns⟩ := C
  intro H locs ls hI hS hl
  subst hv
  exact lv_lmul hx hb hd (kk H locs ls hI hS hl)
theorem V.land (C : Cx p s m args meth c G cc nL ret own) {x y v : Int64} (hd : decode cc pc = .ok (.land, 1)) (hv : x &&& y = v) (kk : V p l e R s m args below meth c G nL cells slots Q ws (pc + 1) lv (.long v :: sk)) : V p l e R s m args below meth c G nL cells slots Q ws pc lv (.long y :: .long x :: sk) := by
  obtain ⟨hx, hb, hml, hown, hts, hr, hlk, hE, hk, hK, hns⟩ := C
  intro H locs ls hI hS hl
  subst hv
  exact lv_land hx hb hd (kk H locs ls hI hS hl)
theorem V.lor (C : Cx p s m args meth c G cc nL ret own) {x y v : Int64} (hd : decode cc pc = .ok (.lor, 1)) (hv : x ||| y = v) (kk : V p l e R s m args below meth c G nL cells slots Q ws (pc + 1) lv (.long v :: sk)) : V p l e R s m args below meth c G nL cells slots Q ws pc lv (.long y :: .long x :: sk) := by
  obtain ⟨hx, hb, hml, hown, hts, hr, hlk, hE, hk, hK, hns⟩ := C
  intro H locs ls hI hS hl
  subst hv
  exact lv_lor hx hb hd (kk H locs ls hI hS hl)
theorem V.lshl (C : Cx p s m args meth c G cc nL ret own) {x v : Int64} {y : Int32} (hd : decode cc pc = .ok (.lshl, 1)) (hv : x <<< (y.toInt64 &&& 63) = v) (kk : V p l e R s m args below meth c G nL cells slots Q ws (pc + 1) lv (.long v :: sk)) : V p l e R s m args below meth c G nL cells slots Q ws pc lv (.int y :: .long x :: sk) := by
  obtain ⟨hx, hb, hml, hown, hts, hr, hlk, hE, hk, hK, hns⟩ := C
  intro H locs ls hI hS hl
  exact lv_lshl hx hb hd hv (kk H locs ls hI hS hl)
theorem V.lshr (C : Cx p s m args meth c G cc nL ret own) {x v : Int64} {y : Int32} (hd : decode cc pc = .ok (.lshr, 1)) (hv : x >>> (y.toInt64 &&& 63) = v) (kk : V p l e R s m args below meth c G nL cells slots Q ws (pc + 1) lv (.long v :: sk)) : V p l e R s m args below meth c G nL cells slots Q ws pc lv (.int y :: .long x :: sk) := by
  obtain ⟨hx, hb, hml, hown, hts, hr, hlk, hE, hk, hK, hns⟩ := C
  intro H locs ls hI hS hl
  exact lv_lshr hx hb hd hv (kk H locs ls hI hS hl)
theorem V.lushr (C : Cx p s m args meth c G cc nL ret own) {x v : Int64} {y : Int32} (hd : decode cc pc = .ok (.lushr, 1)) (hv : (x.toUInt64 >>> (y.toInt64.toUInt64 &&& Int64.toUInt64 63)).toInt64 = v) (kk : V p l e R s m args below meth c G nL cells slots Q ws (pc + 1) lv (.long v :: sk)) : V p l e R s m args below meth c G nL cells slots Q ws pc lv (.int y :: .long x :: sk) := by
  obtain ⟨hx, hb, hml, hown, hts, hr, hlk, hE, hk, hK, hns⟩ := C
  intro H locs ls hI hS hl
  exact lv_lushr hx hb hd hv (kk H locs ls hI hS hl)
theorem V.i2l (C : Cx p s m args meth c G cc nL ret own) {x : Int32} {v : Int64} (hd : decode cc pc = .ok (.i2l, 1)) (hv : x.toInt64 = v) (kk : V p l e R s m args below meth c G nL cells slots Q ws (pc + 1) lv (.long v :: sk)) : V p l e R s m args below meth c G nL cells slots Q ws pc lv (.int x :: sk) := by
  obtain ⟨hx, hb, hml, hown, hts, hr, hlk, hE, hk, hK, hns⟩ := C
  intro H locs ls hI hS hl
  exact lv_i2l hx hb hd hv (kk H locs ls hI hS hl)
theorem V.l2i (C : Cx p s m args meth c G cc nL ret own) {x : Int64} {v : Int32} (hd : decode cc pc = .ok (.l2i, 1)) (hv : x.toInt32 = v) (kk : V p l e R s m args below meth c G nL cells slots Q ws (pc + 1) lv (.int v :: sk)) : V p l e R s m args below meth c G nL cells slots Q ws pc lv (.long x :: sk) := by
  obtain ⟨hx, hb, hml, hown, hts, hr, hlk, hE, hk, hK, hns⟩ := C
  intro H locs ls hI hS hl
  exact lv_l2i hx hb hd hv (kk H locs ls hI hS hl)
theorem V.i2c (C : Cx p s m args meth c G cc nL ret own) {x v : Int32} (hd : decode cc pc = .ok (.i2c, 1)) (hv : (x.toUInt32 % 65536).toInt32 = v) (kk : V p l e R s m args below meth c G nL cells slots Q ws (pc + 1) lv (.int v :: sk)) : V p l e R s m args below meth c G nL cells slots Q ws pc lv (.int x :: sk) := by
  obtain ⟨hx, hb, hml, hown, hts, hr, hlk, hE, hk, hK, hns⟩ := C
  intro H locs ls hI hS hl
  exact lv_i2c hx hb hd hv (kk H locs ls hI hS hl)
theorem V.lcmp (C : Cx p s m args meth c G cc nL ret own) {x y : Int64} {v : Int32} (hd : decode cc pc = .ok (.lcmp, 1)) (hv : lg_cmp x y = v) (kk : V p l e R s m args below meth c G nL cells slots Q ws (pc + 1) lv (.int v :: sk)) : V p l e R s m args below meth c G nL cells slots Q ws pc lv (.long y :: .long x :: sk) := by
  obtain ⟨hx, hb, hml, hown, hts, hr, hlk, hE, hk, hK, hns⟩ := C
  intro H locs ls hI hS hl
  subst hv
  exact W.lcmp hx hb hd (kk H locs ls hI hS hl)
theorem V.dup (C : Cx p s m args meth c G cc nL ret own) {a : Value} (hd : decode cc pc = .ok (.dup, 1)) (ha : a.category = 1) (kk : V p l e R s m args below meth c G nL cells slots Q ws (pc + 1) lv (a :: a :: sk)) : V p l e R s m args below meth c G nL cells slots Q ws pc lv (a :: sk) := by
  obtain ⟨hx, hb, hml, hown, hts, hr, hlk, hE, hk, hK, hns⟩ := C
  intro H locs ls hI hS hl
  exact lv_dup hx hb hd ha (kk H locs ls hI hS hl)
theorem V.pop (C : Cx p s m args meth c G cc nL ret own) {a : Value} (hd : decode cc pc = .ok (.pop, 1)) (ha : a.category = 1) (kk : V p l e R s m args below meth c G nL cells slots Q ws (pc + 1) lv (sk)) : V p l e R s m args below meth c G nL cells slots Q ws pc lv (a :: sk) := by
  obtain ⟨hx, hb, hml, hown, hts, hr, hlk, hE, hk, hK, hns⟩ := C
  intro H locs ls hI hS hl
  exact lv_pop hx hb hd ha (kk H locs ls hI hS hl)
theorem V.dup2 (C : Cx p s m args meth c G cc nL ret own) {a b : Value} (hd : decode cc pc = .ok (.dup2, 1)) (ha : a.category = 1) (hb0 : b.category = 1) (kk : V p l e R s m args below meth c G nL cells slots Q ws (pc + 1) lv (a :: b :: a :: b :: sk)) : V p l e R s m args below meth c G nL cells slots Q ws pc lv (a :: b :: sk) := by
  obtain ⟨hx, hb, hml, hown, hts, hr, hlk, hE, hk, hK, hns⟩ := C
  intro H locs ls hI hS hl
  exact lv_dup2_11 hx hb hd ha hb0 (kk H locs ls hI hS hl)
theorem V.goto (C : Cx p s m args meth c G cc nL ret own) {off : Int} {tgt : Nat} (hd : decode cc pc = .ok (.goto off, 3)) (ht : (pc : Int) + off = (tgt : Int)) (kk : V p l e R s m args below meth c G nL cells slots Q ws tgt lv sk) : V p l e R s m args below meth c G nL cells slots Q ws pc lv sk := by
  obtain ⟨hx, hb, hml, hown, hts, hr, hlk, hE, hk, hK, hns⟩ := C
  intro H locs ls hI hS hl
  exact lv_goto hx hb hd ht (kk H locs ls hI hS hl)
theorem V.if_eq (C : Cx p s m args meth c G cc nL ret own) {x : Int32} {off : Int} {tgt : Nat} (hd : decode cc pc = .ok (.ifCond .eq off, 3)) (ht : (pc : Int) + off = (tgt : Int)) (kt : x = 0 → V p l e R s m args below meth c G nL cells slots Q ws tgt lv sk) (kf : ¬ x = 0 → V p l e R s m args below meth c G nL cells slots Q ws (pc + 3) lv sk) : V p l e R s m args below meth c G nL cells slots Q ws pc lv (.int x :: sk) := by
  obtain ⟨hx, hb, hml, hown, hts, hr, hlk, hE, hk, hK, hns⟩ := C
  intro H locs ls hI hS hl
  exact lv_if_eq hx hb hd ht (fun h => kt h H locs ls hI hS hl) (fun h => kf h H locs ls hI hS hl)
theorem V.icmp_eq (C : Cx p s m args meth c G cc nL ret own) {x y : Int32} {off : Int} {tgt : Nat} (hd : decode cc pc = .ok (.if_icmp .eq off, 3)) (ht : (pc : Int) + off = (tgt : Int)) (kt : x = y → V p l e R s m args below meth c G nL cells slots Q ws tgt lv sk) (kf : ¬ x = y → V p l e R s m args below meth c G nL cells slots Q ws (pc + 3) lv sk) : V p l e R s m args below meth c G nL cells slots Q ws pc lv (.int y :: .int x :: sk) := by
  obtain ⟨hx, hb, hml, hown, hts, hr, hlk, hE, hk, hK, hns⟩ := C
  intro H locs ls hI hS hl
  exact lv_icmp_eq hx hb hd ht (fun h => kt h H locs ls hI hS hl) (fun h => kf h H locs ls hI hS hl)
theorem V.cmpN_eq (C : Cx p s m args meth c G cc nL ret own) {a b : Nat} {off : Int} {tgt : Nat} (hd : decode cc pc = .ok (.if_icmp .eq off, 3)) (ht : (pc : Int) + off = (tgt : Int)) (ha : a < 2 ^ 31) (hb0 : b < 2 ^ 31) (kt : a = b → V p l e R s m args below meth c G nL cells slots Q ws tgt lv sk) (kf : a ≠ b → V p l e R s m args below meth c G nL cells slots Q ws (pc + 3) lv sk) : V p l e R s m args below meth c G nL cells slots Q ws pc lv (.int (nI b) :: .int (nI a) :: sk) :=
  V.icmp_eq C hd ht (fun h => kt ((nI_eq ha hb0).mp h)) (fun h => kf (fun q => h ((nI_eq ha hb0).mpr q)))
theorem V.if_ne (C : Cx p s m args meth c G cc nL ret own) {x : Int32} {off : Int} {tgt : Nat} (hd : decode cc pc = .ok (.ifCond .ne off, 3)) (ht : (pc : Int) + off = (tgt : Int)) (kt : ¬ x = 0 → V p l e R s m args below meth c G nL cells slots Q ws tgt lv sk) (kf : x = 0 → V p l e R s m args below meth c G nL cells slots Q ws (pc + 3) lv sk) : V p l e R s m args below meth c G nL cells slots Q ws pc lv (.int x :: sk) := by
  obtain ⟨hx, hb, hml, hown, hts, hr, hlk, hE, hk, hK, hns⟩ := C
  intro H locs ls hI hS hl
  exact lv_if_ne hx hb hd ht (fun h => kt h H locs ls hI hS hl) (fun h => kf h H locs ls hI hS hl)
theorem V.icmp_ne (C : Cx p s m args meth c G cc nL ret own) {x y : Int32} {off : Int} {tgt : Nat} (hd : decode cc pc = .ok (.if_icmp .ne off, 3)) (ht : (pc : Int) + off = (tgt : Int)) (kt : ¬ x = y → V p l e R s m args below meth c G nL cells slots Q ws tgt lv sk) (kf : x = y → V p l e R s m args below meth c G nL cells slots Q ws (pc + 3) lv sk) : V p l e R s m args below meth c G nL cells slots Q ws pc lv (.int y :: .int x :: sk) := by
  obtain ⟨hx, hb, hml, hown, hts, hr, hlk, hE, hk, hK, hns⟩ := C
  intro H locs ls hI hS hl
  exact lv_icmp_ne hx hb hd ht (fun h => kt h H locs ls hI hS hl) (fun h => kf h H locs ls hI hS hl)
theorem V.cmpN_ne (C : Cx p s m args meth c G cc nL ret own) {a b : Nat} {off : Int} {tgt : Nat} (hd : decode cc pc = .ok (.if_icmp .ne off, 3)) (ht : (pc : Int) + off = (tgt : Int)) (ha : a < 2 ^ 31) (hb0 : b < 2 ^ 31) (kt : a ≠ b → V p l e R s m args below meth c G nL cells slots Q ws tgt lv sk) (kf : a = b → V p l e R s m args below meth c G nL cells slots Q ws (pc + 3) lv sk) : V p l e R s m args below meth c G nL cells slots Q ws pc lv (.int (nI b) :: .int (nI a) :: sk) :=
  V.icmp_ne C hd ht (fun h => kt (fun q => h ((nI_eq ha hb0).mpr q))) (fun h => kf ((nI_eq ha hb0).mp h))
theorem V.if_lt (C : Cx p s m args meth c G cc nL ret own) {x : Int32} {off : Int} {tgt : Nat} (hd : decode cc pc = .ok (.ifCond .lt off, 3)) (ht : (pc : Int) + off = (tgt : Int)) (kt : x < 0 → V p l e R s m args below meth c G nL cells slots Q ws tgt lv sk) (kf : ¬ x < 0 → V p l e R s m args below meth c G nL cells slots Q ws (pc + 3) lv sk) : V p l e R s m args below meth c G nL cells slots Q ws pc lv (.int x :: sk) := by
  obtain ⟨hx, hb, hml, hown, hts, hr, hlk, hE, hk, hK, hns⟩ := C
  intro H locs ls hI hS hl
  exact lv_if_lt hx hb hd ht (fun h => kt h H locs ls hI hS hl) (fun h => kf h H locs ls hI hS hl)
theorem V.icmp_lt (C : Cx p s m args meth c G cc nL ret own) {x y : Int32} {off : Int} {tgt : Nat} (hd : decode cc pc = .ok (.if_icmp .lt off, 3)) (ht : (pc : Int) + off = (tgt : Int)) (kt : x < y → V p l e R s m args below meth c G nL cells slots Q ws tgt lv sk) (kf : ¬ x < y → V p l e R s m args below meth c G nL cells slots Q ws (pc + 3) lv sk) : V p l e R s m args below meth c G nL cells slots Q ws pc lv (.int y :: .int x :: sk) := by
  obtain ⟨hx, hb, hml, hown, hts, hr, hlk, hE, hk, hK, hns⟩ := C
  intro H locs ls hI hS hl
  exact lv_icmp_lt hx hb hd ht (fun h => kt h H locs ls hI hS hl) (fun h => kf h H locs ls hI hS hl)
theorem V.cmpN_lt (C : Cx p s m args meth c G cc nL ret own) {a b : Nat} {off : Int} {tgt : Nat} (hd : decode cc pc = .ok (.if_icmp .lt off, 3)) (ht : (pc : Int) + off = (tgt : Int)) (ha : a < 2 ^ 31) (hb0 : b < 2 ^ 31) (kt : a < b → V p l e R s m args below meth c G nL cells slots Q ws tgt lv sk) (kf : b ≤ a → V p l e R s m args below meth c G nL cells slots Q ws (pc + 3) lv sk) : V p l e R s m args below meth c G nL cells slots Q ws pc lv (.int (nI b) :: .int (nI a) :: sk) :=
  V.icmp_lt C hd ht (fun h => kt ((nI_ltI ha hb0).mp h)) (fun h => kf (Nat.not_lt.mp fun q => h ((nI_ltI ha hb0).mpr q)))
theorem V.if_ge (C : Cx p s m args meth c G cc nL ret own) {x : Int32} {off : Int} {tgt : Nat} (hd : decode cc pc = .ok (.ifCond .ge off, 3)) (ht : (pc : Int) + off = (tgt : Int)) (kt : 0 ≤ x → V p l e R s m args below meth c G nL cells slots Q ws tgt lv sk) (kf : ¬ 0 ≤ x → V p l e R s m args below meth c G nL cells slots Q ws (pc + 3) lv sk) : V p l e R s m args below meth c G nL cells slots Q ws pc lv (.int x :: sk) := by
  obtain ⟨hx, hb, hml, hown, hts, hr, hlk, hE, hk, hK, hns⟩ := C
  intro H locs ls hI hS hl
  exact lv_if_ge hx hb hd ht (fun h => kt h H locs ls hI hS hl) (fun h => kf h H locs ls hI hS hl)
theorem V.icmp_ge (C : Cx p s m args meth c G cc nL ret own) {x y : Int32} {off : Int} {tgt : Nat} (hd : decode cc pc = .ok (.if_icmp .ge off, 3)) (ht : (pc : Int) + off = (tgt : Int)) (kt : y ≤ x → V p l e R s m args below meth c G nL cells slots Q ws tgt lv sk) (kf : ¬ y ≤ x → V p l e R s m args below meth c G nL cells slots Q ws (pc + 3) lv sk) : V p l e R s m args below meth c G nL cells slots Q ws pc lv (.int y :: .int x :: sk) := by
  obtain ⟨hx, hb, hml, hown, hts, hr, hlk, hE, hk, hK, hns⟩ := C
  intro H locs ls hI hS hl
  exact lv_icmp_ge hx hb hd ht (fun h => kt h H locs ls hI hS hl) (fun h => kf h H locs ls hI hS hl)
theorem V.cmpN_ge (C : Cx p s m args meth c G cc nL ret own) {a b : Nat} {off : Int} {tgt : Nat} (hd : decode cc pc = .ok (.if_icmp .ge off, 3)) (ht : (pc : Int) + off = (tgt : Int)) (ha : a < 2 ^ 31) (hb0 : b < 2 ^ 31) (kt : b ≤ a → V p l e R s m args below meth c G nL cells slots Q ws tgt lv sk) (kf : a < b → V p l e R s m args below meth c G nL cells slots Q ws (pc + 3) lv sk) : V p l e R s m args below meth c G nL cells slots Q ws pc lv (.int (nI b) :: .int (nI a) :: sk) :=
  V.icmp_ge C hd ht (fun h => kt ((nI_leI hb0 ha).mp h)) (fun h => kf (Nat.not_le.mp fun q => h ((nI_leI hb0 ha).mpr q)))
theorem V.if_gt (C : Cx p s m args meth c G cc nL ret own) {x : Int32} {off : Int} {tgt : Nat} (hd : decode cc pc = .ok (.ifCond .gt off, 3)) (ht : (pc : Int) + off = (tgt : Int)) (kt : 0 < x → V p l e R s m args below meth c G nL cells slots Q ws tgt lv sk) (kf : ¬ 0 < x → V p l e R s m args below meth c G nL cells slots Q ws (pc + 3) lv sk) : V p l e R s m args below meth c G nL cells slots Q ws pc lv (.int x :: sk) := by
  obtain ⟨hx, hb, hml, hown, hts, hr, hlk, hE, hk, hK, hns⟩ := C
  intro H locs ls hI hS hl
  exact lv_if_gt hx hb hd ht (fun h => kt h H locs ls hI hS hl) (fun h => kf h H locs ls hI hS hl)
theorem V.icmp_gt (C : Cx p s m args meth c G cc nL ret own) {x y : Int32} {off : Int} {tgt : Nat} (hd : decode cc pc = .ok (.if_icmp .gt off, 3)) (ht : (pc : Int) + off = (tgt : Int)) (kt : y < x → V p l e R s m args below meth c G nL cells slots Q ws tgt lv sk) (kf : ¬ y < x → V p l e R s m args below meth c G nL cells slots Q ws (pc + 3) lv sk) : V p l e R s m args below meth c G nL cells slots Q ws pc lv (.int y :: .int x :: sk) := by
  obtain ⟨hx, hb, hml, hown, hts, hr, hlk, hE, hk, hK, hns⟩ := C
  intro H locs ls hI hS hl
  exact lv_icmp_gt hx hb hd ht (fun h => kt h H locs ls hI hS hl) (fun h => kf h H locs ls hI hS hl)
theorem V.cmpN_gt (C : Cx p s m args meth c G cc nL ret own) {a b : Nat} {off : Int} {tgt : Nat} (hd : decode cc pc = .ok (.if_icmp .gt off, 3)) (ht : (pc : Int) + off = (tgt : Int)) (ha : a < 2 ^ 31) (hb0 : b < 2 ^ 31) (kt : b < a → V p l e R s m args below meth c G nL cells slots Q ws tgt lv sk) (kf : a ≤ b → V p l e R s m args below meth c G nL cells slots Q ws (pc + 3) lv sk) : V p l e R s m args below meth c G nL cells slots Q ws pc lv (.int (nI b) :: .int (nI a) :: sk) :=
  V.icmp_gt C hd ht (fun h => kt ((nI_ltI hb0 ha).mp h)) (fun h => kf (Nat.not_lt.mp fun q => h ((nI_ltI hb0 ha).mpr q)))
theorem V.if_le (C : Cx p s m args meth c G cc nL ret own) {x : Int32} {off : Int} {tgt : Nat} (hd : decode cc pc = .ok (.ifCond .le off, 3)) (ht : (pc : Int) + off = (tgt : Int)) (kt : x ≤ 0 → V p l e R s m args below meth c G nL cells slots Q ws tgt lv sk) (kf : ¬ x ≤ 0 → V p l e R s m args below meth c G nL cells slots Q ws (pc + 3) lv sk) : V p l e R s m args below meth c G nL cells slots Q ws pc lv (.int x :: sk) := by
  obtain ⟨hx, hb, hml, hown, hts, hr, hlk, hE, hk, hK, hns⟩ := C
  intro H locs ls hI hS hl
  exact lv_if_le hx hb hd ht (fun h => kt h H locs ls hI hS hl) (fun h => kf h H locs ls hI hS hl)
theorem V.icmp_le (C : Cx p s m args meth c G cc nL ret own) {x y : Int32} {off : Int} {tgt : Nat} (hd : decode cc pc = .ok (.if_icmp .le off, 3)) (ht : (pc : Int) + off = (tgt : Int)) (kt : x ≤ y → V p l e R s m args below meth c G nL cells slots Q ws tgt lv sk) (kf : ¬ x ≤ y → V p l e R s m args below meth c G nL cells slots Q ws (pc + 3) lv sk) : V p l e R s m args below meth c G nL cells slots Q ws pc lv (.int y :: .int x :: sk) := by
  obtain ⟨hx, hb, hml, hown, hts, hr, hlk, hE, hk, hK, hns⟩ := C
  intro H locs ls hI hS hl
  exact lv_icmp_le hx hb hd ht (fun h => kt h H locs ls hI hS hl) (fun h => kf h H locs ls hI hS hl)
theorem V.cmpN_le (C : Cx p s m args meth c G cc nL ret own) {a b : Nat} {off : Int} {tgt : Nat} (hd : decode cc pc = .ok (.if_icmp .le off, 3)) (ht : (pc : Int) + off = (tgt : Int)) (ha : a < 2 ^ 31) (hb0 : b < 2 ^ 31) (kt : a ≤ b → V p l e R s m args below meth c G nL cells slots Q ws tgt lv sk) (kf : b < a → V p l e R s m args below meth c G nL cells slots Q ws (pc + 3) lv sk) : V p l e R s m args below meth c G nL cells slots Q ws pc lv (.int (nI b) :: .int (nI a) :: sk) :=
  V.icmp_le C hd ht (fun h => kt ((nI_leI ha hb0).mp h)) (fun h => kf (Nat.not_le.mp fun q => h ((nI_leI ha hb0).mpr q)))
theorem V.ifB_eq (C : Cx p s m args meth c G cc nL ret own) {b : Bool} {off : Int} {tgt : Nat} (hd : decode cc pc = .ok (.ifCond .eq off, 3)) (ht : (pc : Int) + off = (tgt : Int)) (kt : b = false → V p l e R s m args below meth c G nL cells slots Q ws tgt lv sk) (kf : b = true → V p l e R s m args below meth c G nL cells slots Q ws (pc + 3) lv sk) : V p l e R s m args below meth c G nL cells slots Q ws pc lv (.int (bI b) :: sk) := by
  refine V.if_eq C hd ht (fun h => kt ?_) (fun h => kf ?_)
  · cases b
    · rfl
    · exact absurd h (by decide +kernel)
  · cases b
    · exact absurd (by decide +kernel) h
    · rfl
theorem V.ifB_ne (C : Cx p s m args meth c G cc nL ret own) {b : Bool} {off : Int} {tgt : Nat} (hd : decode cc pc = .ok (.ifCond .ne off, 3)) (ht : (pc : Int) + off = (tgt : Int)) (kt : b = true → V p l e R s m args below meth c G nL cells slots Q ws tgt lv sk) (kf : b = false → V p l e R s m args below meth c G nL cells slots Q ws (pc + 3) lv sk) : V p l e R s m args below meth c G nL cells slots Q ws pc lv (.int (bI b) :: sk) := by
  refine V.if_ne C hd ht (fun h => kt ?_) (fun h => kf ?_)
  · cases b
    · exact absurd (by decide +kernel) h
    · rfl
  · cases b
    · rfl
    · exact absurd h (by decide +kernel)
theorem V.ifN_eq (C : Cx p s m args meth c G cc nL ret own) {a : Nat} {off : Int} {tgt : Nat} (hd : decode cc pc = .ok (.ifCond .eq off, 3)) (ht : (pc : Int) + off = (tgt : Int)) (ha : a < 2 ^ 31) (kt : a = 0 → V p l e R s m args below meth c G nL cells slots Q ws tgt lv sk) (kf : a ≠ 0 → V p l e R s m args below meth c G nL cells slots Q ws (pc + 3) lv sk) : V p l e R s m args below meth c G nL cells slots Q ws pc lv (.int (nI a) :: sk) :=
  V.if_eq C hd ht (fun h => kt (Nat.eq_zero_of_not_pos fun q => nI_ne0 q ha h)) (fun h => kf (fun q => h (by rw [q]; exact nI_0)))
theorem V.ifN_ne (C : Cx p s m args meth c G cc nL ret own) {a : Nat} {off : Int} {tgt : Nat} (hd : decode cc pc = .ok (.ifCond .ne off, 3)) (ht : (pc : Int) + off = (tgt : Int)) (ha : a < 2 ^ 31) (kt : a ≠ 0 → V p l e R s m args below meth c G nL cells slots Q ws tgt lv sk) (kf : a = 0 → V p l e R s m args below meth c G nL cells slots Q ws (pc + 3) lv sk) : V p l e R s m args below meth c G nL cells slots Q ws pc lv (.int (nI a) :: sk) :=
  V.if_ne C hd ht (fun h => kt (fun q => h (by rw [q]; exact nI_0))) (fun h => kf (Nat.eq_zero_of_not_pos fun q => nI_ne0 q ha h))
theorem V.ifN_le (C : Cx p s m args meth c G cc nL ret own) {a : Nat} {off : Int} {tgt : Nat} (hd : decode cc pc = .ok (.ifCond .le off, 3)) (ht : (pc : Int) + off = (tgt : Int)) (ha : a < 2 ^ 31) (kt : a = 0 → V p l e R s m args below meth c G nL cells slots Q ws tgt lv sk) (kf : a ≠ 0 → V p l e R s m args below meth c G nL cells slots Q ws (pc + 3) lv sk) : V p l e R s m args below meth c G nL cells slots Q ws pc lv (.int (nI a) :: sk) :=
  V.if_le C hd ht (fun h => kt (Nat.eq_zero_of_not_pos fun q => nI_nle q ha h)) (fun h => kf (fun q => h (by rw [q]; decide +kernel)))
theorem V.ifN_gt (C : Cx p s m args meth c G cc nL ret own) {a : Nat} {off : Int} {tgt : Nat} (hd : decode cc pc = .ok (.ifCond .gt off, 3)) (ht : (pc : Int) + off = (tgt : Int)) (ha : a < 2 ^ 31) (kt : a ≠ 0 → V p l e R s m args below meth c G nL cells slots Q ws tgt lv sk) (kf : a = 0 → V p l e R s m args below meth c G nL cells slots Q ws (pc + 3) lv sk) : V p l e R s m args below meth c G nL cells slots Q ws pc lv (.int (nI a) :: sk) :=
  V.if_gt C hd ht (fun h => kt (fun q => absurd h (by rw [q]; decide +kernel))) (fun h => kf (Nat.eq_zero_of_not_pos fun q => h (by have := nI_lt q ha; rw [nI_0] at this; exact this)))
theorem V.ifN_lt (C : Cx p s m args meth c G cc nL ret own) {a : Nat} {off : Int} {tgt : Nat} (hd : decode cc pc = .ok (.ifCond .lt off, 3)) (ht : (pc : Int) + off = (tgt : Int)) (ha : a < 2 ^ 31) (kf : V p l e R s m args below meth c G nL cells slots Q ws (pc + 3) lv sk) : V p l e R s m args below meth c G nL cells slots Q ws pc lv (.int (nI a) :: sk) :=
  V.if_lt C hd ht (fun h => absurd h (nI_pos ha)) (fun h => kf)
theorem V.ifN_ge (C : Cx p s m args meth c G cc nL ret own) {a : Nat} {off : Int} {tgt : Nat} (hd : decode cc pc = .ok (.ifCond .ge off, 3)) (ht : (pc : Int) + off = (tgt : Int)) (ha : a < 2 ^ 31) (kt : V p l e R s m args below meth c G nL cells slots Q ws tgt lv sk) : V p l e R s m args below meth c G nL cells slots Q ws pc lv (.int (nI a) :: sk) :=
  V.if_ge C hd ht (fun h => kt) (fun h => absurd (nI_pos' ha) h)
-- kit: rx = ry / ¬ rx = ry
theorem V.acmp_eq (C : Cx p s m args meth c G cc nL ret own) {x y : Nat} {off : Int} {tgt : Nat} (hd : decode cc pc = .ok (.if_acmp .eq off, 3)) (ht : (pc : Int) + off = (tgt : Int)) (kt : x = y → V p l e R s m args below meth c G nL cells slots Q ws tgt lv sk) (kf : x ≠ y → V p l e R s m args below meth c G nL cells slots Q ws (pc + 3) lv sk) : V p l e R s m args below meth c G nL cells slots Q ws pc lv (.ref y :: .ref x :: sk) := by
  obtain ⟨hx, hb, hml, hown, hts, hr, hlk, hE, hk, hK, hns⟩ := C
  intro H locs ls hI hS hl
  exact lv_acmp_eq (rx := some x) (ry := some y) hx hb hd ht (fun h => kt (by simpa using h) H locs ls hI hS hl) (fun h => kf (by simpa using h) H locs ls hI hS hl)
-- kit: ¬ rx = ry / rx = ry
theorem V.acmp_ne (C : Cx p s m args meth c G cc nL ret own) {x y : Nat} {off : Int} {tgt : Nat} (hd : decode cc pc = .ok (.if_acmp .ne off, 3)) (ht : (pc : Int) + off = (tgt : Int)) (kt : x ≠ y → V p l e R s m args below meth c G nL cells slots Q ws tgt lv sk) (kf : x = y → V p l e R s m args below meth c G nL cells slots Q ws (pc + 3) lv sk) : V p l e R s m args below meth c G nL cells slots Q ws pc lv (.ref y :: .ref x :: sk) := by
  obtain ⟨hx, hb, hml, hown, hts, hr, hlk, hE, hk, hK, hns⟩ := C
  intro H locs ls hI hS hl
  exact lv_acmp_ne (rx := some x) (ry := some y) hx hb hd ht (fun h => kt (by simpa using h) H locs ls hI hS hl) (fun h => kf (by simpa using h) H locs ls hI hS hl)
theorem V.tableOut (C : Cx p s m args meth c G cc nL ret own) {dflt lo hi : Int} {offs : Array Int} {len : Nat} {x : Int32} {tgt : Nat} (hd : decode cc pc = .ok (.tableswitch dflt lo hi offs, len)) (h : x.toInt < lo ∨ hi < x.toInt) (ht : (pc : Int) + dflt = (tgt : Int)) (kk : V p l e R s m args below meth c G nL cells slots Q ws (tgt) lv (sk)) : V p l e R s m args below meth c G nL cells slots Q ws pc lv (.int x :: sk) := by
  obtain ⟨hx, hb, hml, hown, hts, hr, hlk, hE, hk, hK, hns⟩ := C
  intro H locs ls hI hS hl
  exact lv_tableOut hx hb hd h ht (kk H locs ls hI hS hl)
theorem V.tableIn (C : Cx p s m args meth c G cc nL ret own) {dflt lo hi : Int} {offs : Array Int} {len : Nat} {x : Int32} {off : Int} {tgt : Nat} (hd : decode cc pc = .ok (.tableswitch dflt lo hi offs, len)) (h1 : ¬ x.toInt < lo) (h2 : ¬ hi < x.toInt) (ho : offs[(x.toInt - lo).toNat]? = some off) (ht : (pc : Int) + off = (tgt : Int)) (kk : V p l e R s m args below meth c G nL cells slots Q ws (tgt) lv (sk)) : V p l e R s m args below meth c G nL cells slots Q ws pc lv (.int x :: sk) := by
  obtain ⟨hx, hb, hml, hown, hts, hr, hlk, hE, hk, hK, hns⟩ := C
  intro H locs ls hI hS hl
  exact lv_tableIn hx hb hd h1 h2 ho ht (kk H locs ls hI hS hl)
theorem V.lookup (C : Cx p s m args meth c G cc nL ret own) {dflt : Int} {ps : Array (Int × Int)} {len : Nat} {x : Int32} {off : Int} {tgt : Nat} (hd : decode cc pc = .ok (.lookupswitch dflt ps, len)) (hp : (ps.toList.zip (ps.toList.drop 1)).all (fun (a, next) => a.1 < next.1) = true) (ho : Op.lookupswitch.offset ps.toList dflt x.toInt = off) (ht : (pc : Int) + off = (tgt : Int)) (kk : V p l e R s m args below meth c G nL cells slots Q ws (tgt) lv (sk)) : V p l e R s m args below meth c G nL cells slots Q ws pc lv (.int x :: sk) := by
  obtain ⟨hx, hb, hml, hown, hts, hr, hlk, hE, hk, hK, hns⟩ := C
  intro H locs ls hI hS hl
  exact lv_lookup hx hb hd hp ho ht (kk H locs ls hI hS hl)
theorem V.get (C : Cx p s m args meth c G cc nL ret own) {CN : String} {T : u_T} {N i : Nat} {a ci : Nat} {fs : List Value} {v : Value} (hin : ∀ w ∈ u_ws CN T N, w ∈ gt) (q0 : Nat) (he : ws[q0]? = some (a, .inr (ci, fs))) (hc : classes[ci]? = some (CN, T, N)) (k : Nat) (hkN : k < N) (hw : Cond.fieldLink own i (T k).1 (T k).2.1 (T k).2.2.1 ∈ gt) (hv : fs[k]? = some v) (hd : decode cc pc = .ok (.getfield i, 3))
    (kk : V p l e R s m args below meth c G nL cells slots Q ws (pc + 3) lv (v :: sk)) : V p l e R s m args below meth c G nL cells slots Q ws pc lv (.ref a :: sk) := by
  obtain ⟨hx, hb, hml, hown, hts, hr, hlk, hE, hk, hK, hns⟩ := C
  intro H locs ls hI hS hl
  exact va_get (D := G.1) (cl := classes) hx hb hts hin hown hI.1 hI.2.1 q0 he hc k hkN (hts _ hw) (fun _ h => h) hv hd (kk H locs ls hI hS hl)
theorem V.put (C : Cx p s m args meth c G cc nL ret own) {CN : String} {T : u_T} {N i : Nat} {a ci : Nat} {fs : List Value} {v : Value} {ty : FieldType} (hin : ∀ w ∈ u_ws CN T N, w ∈ gt) (ty0 : Nat → FieldType) (hty : ∀ k, k < N → parseFieldDescriptor (T k).2.2.1 = some (ty0 k)) (hnm : ∀ a, a < N → ∀ b, b < N → a ≠ b → (T a).2.1 ≠ (T b).2.1) (q0 : Nat) (he : ws[q0]? = some (a, .inr (ci, fs))) (hc : classes[ci]? = some (CN, T, N)) (k : Nat) (hkN : k < N) (hw : Cond.fieldLink own i (T k).1 (T k).2.1 (T k).2.2.1 ∈ gt) (hfin : (T k).2.2.2 = false) (hde : parseFieldDescriptor (T k).2.2.1 = some ty) (hn : narrow ty v = v) (hfit : fits ty v = true) (hl0 : k < fs.length) (hws : ws.set q0 (a, .inr (ci, fs.set k v)) = ws') (hd : decode cc pc = .ok (.putfield i, 3))
    (kk : V p l e R s m args below meth c G nL cells slots Q ws' (pc + 3) lv sk) : V p l e R s m args below meth c G nL cells slots Q ws pc lv (v :: .ref a :: sk) := by
  obtain ⟨hx, hb, hml, hown, hts, hr, hlk, hE, hk, hK, hns⟩ := C
  subst hws
  intro H locs ls hI hS hl
  exact va_put (D := G.1) (cl := classes) hx hb hts hin ty0 hty hnm hown hI.1 hI.2.1 hI.2.2.1 hS q0 he hc k hkN (hts _ hw) (fun _ h => h) hfin hde hn hfit hl0 hd (fun H1 locs1 hP hD hS1 => kk H1 locs1 ls ⟨hI.1, hP, hD, hI.2.2.2.set he⟩ hS1 hl)
theorem V.iald (C : Cx p s m args meth c G cc nL ret own) {a n k : Nat} {cA : ClassId} {f : Nat → Int32} (q0 t0 : Nat) (ha : ws[q0]? = some (a, .inl (cA, n, .inl f))) (ht : G.2.1[t0]? = some (cA, .int)) (hk0 : k < n) (hn : n < 2 ^ 31) (hd : decode cc pc = .ok (.iaload, 1))
    (kk : V p l e R s m args below meth c G nL cells slots Q ws (pc + 1) lv (.int (f k) :: sk)) : V p l e R s m args below meth c G nL cells slots Q ws pc lv (.int (nI k) :: .ref a :: sk) := by
  obtain ⟨hx, hb, hml, hown, hts, hr, hlk, hE, hk, hK, hns⟩ := C
  intro H locs ls hI hS hl
  refine va_iald (D := G.1) (cl := classes) hx hb hI.1 hI.2.1 q0 t0 ha ht (vp_in_nI hk0 hn) hd ?_
  rw [nI_clamp (by omega)]
  exact kk H locs ls hI hS hl
theorem V.lald (C : Cx p s m args meth c G cc nL ret own) {a n k : Nat} {cA : ClassId} {f : Nat → Int64} (q0 t0 : Nat) (ha : ws[q0]? = some (a, .inl (cA, n, .inr (.inl f)))) (ht : G.2.1[t0]? = some (cA, .long)) (hk0 : k < n) (hn : n < 2 ^ 31) (hd : decode cc pc = .ok (.laload, 1))
    (kk : V p l e R s m args below meth c G nL cells slots Q ws (pc + 1) lv (.long (f k) :: sk)) : V p l e R s m args below meth c G nL cells slots Q ws pc lv (.int (nI k) :: .ref a :: sk) := by
  obtain ⟨hx, hb, hml, hown, hts, hr, hlk, hE, hk, hK, hns⟩ := C
  intro H locs ls hI hS hl
  refine va_lald (D := G.1) (cl := classes) hx hb hI.1 hI.2.1 q0 t0 ha ht (vp_in_nI hk0 hn) hd ?_
  rw [nI_clamp (by omega)]
  exact kk H locs ls hI hS hl
theorem V.cald (C : Cx p s m args meth c G cc nL ret own) {a n k : Nat} {cA : ClassId} {f : Nat → Int32} (q0 t0 : Nat) (ha : ws[q0]? = some (a, .inl (cA, n, .inl f))) (ht : G.2.1[t0]? = some (cA, .char)) (hk0 : k < n) (hn : n < 2 ^ 31) (hd : decode cc pc = .ok (.caload, 1))
    (kk : V p l e R s m args below meth c G nL cells slots Q ws (pc + 1) lv (.int (f k) :: sk)) : V p l e R s m args below meth c G nL cells slots Q ws pc lv (.int (nI k) :: .ref a :: sk) := by
  obtain ⟨hx, hb, hml, hown, hts, hr, hlk, hE, hk, hK, hns⟩ := C
  intro H locs ls hI hS hl
  refine va_cald (D := G.1) (cl := classes) hx hb hI.1 hI.2.1 q0 t0 ha ht (vp_in_nI hk0 hn) hd ?_
  rw [nI_clamp (by omega)]
  exact kk H locs ls hI hS hl
theorem V.aald (C : Cx p s m args meth c G cc nL ret own) {a n k : Nat} {cA : ClassId} {CN : String} {f : Nat → Option Nat} (q0 t0 : Nat) (ha : ws[q0]? = some (a, .inl (cA, n, .inr (.inr (.inr (.inr f)))))) (ht : G.2.1[t0]? = some (cA, .object CN)) (hk0 : k < n) (hn : n < 2 ^ 31) (hd : decode cc pc = .ok (.aaload, 1))
    (kk : V p l e R s m args below meth c G nL cells slots Q ws (pc + 1) lv (va_rf (f k) :: sk)) : V p l e R s m args below meth c G nL cells slots Q ws pc lv (.int (nI k) :: .ref a :: sk) := by
  obtain ⟨hx, hb, hml, hown, hts, hr, hlk, hE, hk, hK, hns⟩ := C
  intro H locs ls hI hS hl
  refine va_aldq (D := G.1) (cl := classes) hx hb hI.1 hI.2.1 q0 t0 ha ht (vp_in_nI hk0 hn) hd ?_
  rw [nI_clamp (by omega)]
  exact kk H locs ls hI hS hl
theorem V.iast (C : Cx p s m args meth c G cc nL ret own) {a n k : Nat} {cA : ClassId} {f : Nat → Int32} {x : Int32} (q0 t0 : Nat) (ha : ws[q0]? = some (a, .inl (cA, n, .inl f))) (ht : G.2.1[t0]? = some (cA, .int)) (hk0 : k < n) (hn : n < 2 ^ 31) (hws : ws.set q0 (a, .inl (cA, n, .inl (upd f k x))) = ws') (hd : decode cc pc = .ok (.iastore, 1))
    (kk : V p l e R s m args below meth c G nL cells slots Q ws' (pc + 1) lv sk) : V p l e R s m args below meth c G nL cells slots Q ws pc lv (.int x :: .int (nI k) :: .ref a :: sk) := by
  obtain ⟨hx, hb, hml, hown, hts, hr, hlk, hE, hk, hK, hns⟩ := C
  subst hws
  intro H locs ls hI hS hl
  refine va_iast (D := G.1) (cl := classes) hx hb hI.1 hI.2.1 hI.2.2.1 hS q0 t0 ha ht (vp_in_nI hk0 hn) hd ?_
  rw [nI_clamp (by omega)]
  exact fun H1 locs1 hP hD hS1 => kk H1 locs1 ls ⟨hI.1, hP, hD, hI.2.2.2.set ha⟩ hS1 hl
theorem up_nI (f : Nat → Nat) (k v : Nat) : upd (fun j => nI (f j)) k (nI v) = fun j => nI (va_up f k v j) := by
  funext j
  unfold upd va_up
  split <;> rfl
theorem V.iastN (C : Cx p s m args meth c G cc nL ret own) {a n k x : Nat} {cA : ClassId} {f : Nat → Nat} (q0 t0 : Nat) (ha : ws[q0]? = some (a, .inl (cA, n, .inl (fun j => nI (f j))))) (ht : G.2.1[t0]? = some (cA, .int)) (hk0 : k < n) (hn : n < 2 ^ 31) (hws : ws.set q0 (a, .inl (cA, n, .inl (fun j => nI (va_up f k x j)))) = ws') (hd : decode cc pc = .ok (.iastore, 1))
    (kk : V p l e R s m args below meth c G nL cells slots Q ws' (pc + 1) lv sk) : V p l e R s m args below meth c G nL cells slots Q ws pc lv (.int (nI x) :: .int (nI k) :: .ref a :: sk) :=
  V.iast C q0 t0 ha ht hk0 hn (by rw [up_nI]; exact hws) hd kk
theorem V.last (C : Cx p s m args meth c G cc nL ret own) {a n k : Nat} {cA : ClassId} {f : Nat → Int64} {x : Int64} (q0 t0 : Nat) (ha : ws[q0]? = some (a, .inl (cA, n, .inr (.inl f)))) (ht : G.2.1[t0]? = some (cA, .long)) (hk0 : k < n) (hn : n < 2 ^ 31) (hws : ws.set q0 (a, .inl (cA, n, .inr (.inl (va_up f k x)))) = ws') (hd : decode cc pc = .ok (.lastore, 1))
    (kk : V p l e R s m args below meth c G nL cells slots Q ws' (pc + 1) lv sk) : V p l e R s m args below meth c G nL cells slots Q ws pc lv (.long x :: .int (nI k) :: .ref a :: sk) := by
  obtain ⟨hx, hb, hml, hown, hts, hr, hlk, hE, hk, hK, hns⟩ := C
  subst hws
  intro H locs ls hI hS hl
  refine va_last (D := G.1) (cl := classes) hx hb hI.1 hI.2.1 hI.2.2.1 hS q0 t0 ha ht (vp_in_nI hk0 hn) hd ?_
  rw [nI_clamp (by omega)]
  exact fun H1 locs1 hP hD hS1 => kk H1 locs1 ls ⟨hI.1, hP, hD, hI.2.2.2.set ha⟩ hS1 hl
theorem nar_nI {x : Nat} (h : x < 65536) : vp_nar .char (nI x) = nI x := by
  unfold vp_nar
  rw [(pk_charN h).1]
theorem V.castN (C : Cx p s m args meth c G cc nL ret own) {a n k x : Nat} {cA : ClassId} {f : Nat → Nat} (q0 t0 : Nat) (ha : ws[q0]? = some (a, .inl (cA, n, .inl (fun j => nI (f j))))) (ht : G.2.1[t0]? = some (cA, .char)) (hk0 : k < n) (hn : n < 2 ^ 31) (hx0 : x < 65536) (hws : ws.set q0 (a, .inl (cA, n, .inl (fun j => nI (va_up f k x j)))) = ws') (hd : decode cc pc = .ok (.castore, 1))
    (kk : V p l e R s m args below meth c G nL cells slots Q ws' (pc + 1) lv sk) : V p l e R s m args below meth c G nL cells slots Q ws pc lv (.int (nI x) :: .int (nI k) :: .ref a :: sk) := by
  obtain ⟨hx, hb, hml, hown, hts, hr, hlk, hE, hk, hK, hns⟩ := C
  subst hws
  intro H locs ls hI hS hl
  refine va_cast (D := G.1) (cl := classes) hx hb hI.1 hI.2.1 hI.2.2.1 hS q0 t0 ha ht (vp_in_nI hk0 hn) hd ?_
  rw [nI_clamp (by omega), nar_nI hx0, up_nI]
  exact fun H1 locs1 hP hD hS1 => kk H1 locs1 ls ⟨hI.1, hP, hD, hI.2.2.2.set ha⟩ hS1 hl
theorem V.alen (C : Cx p s m args meth c G cc nL ret own) {a : Nat} {cA : ClassId} {x : vp_A} {ty : FieldType} (q0 t0 : Nat) (ha : ws[q0]? = some (a, .inl (cA, x))) (ht : G.2.1[t0]? = some (cA, ty)) (hd : decode cc pc = .ok (.arraylength, 1))
    (kk : V p l e R s m args below meth c G nL cells slots Q ws (pc + 1) lv (.int (nI x.1) :: sk)) : V p l e R s m args below meth c G nL cells slots Q ws pc lv (.ref a :: sk) := by
  obtain ⟨hx, hb, hml, hown, hts, hr, hlk, hE, hk, hK, hns⟩ := C
  intro H locs ls hI hS hl
  exact va_alen (D := G.1) (cl := classes) hx hb hI.1 hI.2.1 q0 t0 ha ht rfl hd (kk H locs ls hI hS hl)
end VS
end
section
/-! ===== calls by contract, over V; what is thrown ===== -/
/-- a method of ours that is called on an object; a static one -/
def Yw (y : MethodName) (cc : ByteArray) (nL : Nat) (ret : Option FieldType) (n : Nat) : Prop :=
  Cond.instanceMethod y ∈ gt ∧ Cond.selects y.cls y y ∈ gt ∧ Cond.code y cc nL ret ∈ gt ∧ Cond.initialized y.cls ∈ gt ∧ (y.cls ≠ "java/lang/invoke/MethodHandle" ∧ y.cls ≠ "java/lang/invoke/VarHandle") ∧ (parseMethodDescriptor y.desc).map (fun d => d.parameters.length) = some n ∧ nL ≤ 21
def Ys (y : MethodName) (cc : ByteArray) (nL : Nat) (ret : Option FieldType) (n : Nat) : Prop :=
  Cond.static y ∈ gt ∧ Cond.code y cc nL ret ∈ gt ∧ Cond.initialized y.cls ∈ gt ∧ (y.cls ≠ "java/lang/invoke/MethodHandle" ∧ y.cls ≠ "java/lang/invoke/VarHandle") ∧ (parseMethodDescriptor y.desc).map (fun d => d.parameters.length) = some n ∧ nL ≤ 21
/-- the room that a callee of height h wants -/
def Rok (R : Room) (h cells slots : Nat) : Prop := h + 9 ≤ R.frames ∧ 40 * h + 240 ≤ R.locals ∧ cells + 1 ≤ R.cells ∧ slots + 6 ≤ R.slots
theorem Rok.lt {h h' : Nat} (q : h' < h) : Rok (Rm h) h' 0 0 := ⟨by show h' + 9 ≤ h + 8; omega, by show 40 * h' + 240 ≤ 40 * h + 200; omega, by show 0 + 1 ≤ 1; omega, by show 0 + 6 ≤ 6; omega⟩
def XPre (R : Room) (G : Gm) (av : List Value) (ws : va_W) : Pt → Array Value → Prop := fun A a => A.cells + 1 ≤ R.cells ∧ A.slots + 6 ≤ R.slots ∧ va_Pc av (XP G ws) a A.U
def XPost (G : Gm) (v : Option Value) (ws1 : va_W) : Pt → Array Value → Option Value → Pt → Prop := fun A _ v' B =>
  v' = v ∧ B.cells = A.cells ∧ B.slots = A.slots ∧ KI G ws1 B.U B.U.heap ∧ A.U.heap.size ≤ B.U.heap.size ∧ (∀ q : Nat, q < A.U.heap.size → ¬ G.2.2.1 q → B.U.heap[q]? = A.U.heap[q]?) ∧ ∃ L : List Loc, B.locs = A.locs ++ L ∧ ∀ z ∈ L, G.2.2.1 z.base
theorem XP.blind {G : Gm} {ws : va_W} {U : State} (g : JFrame) (mk : MethodId) (a : Array Value) (h : XP G ws U) : XP G ws (U.calling g mk a) := by
  obtain ⟨h1, h2, h3⟩ := h
  exact ⟨h1, KI.moved (u := U) (U := U.calling g mk a) (Vm.Alike.refl U.vm) h2, h1.2 U (U.calling g mk a) U.heap (Vm.Alike.refl U.vm) h3⟩
theorem KI.same {G : Gm} {ws : va_W} {u U : State} {H : Heap} (hvm : u.vm = U.vm) (h : KI G ws u H) : KI G ws U H := KI.moved (by rw [hvm]; exact Vm.Alike.refl _) h
section XB
variable {l : Launch} {R : Room} {p : Program} {e : Env} {below : List Frame} {s : State} {sargs : Array Value} {y : MethodName} {G : Gm} {h : Nat} {cc : ByteArray} {nL : Nat} {ret : Option FieldType} {av : List Value} {ws ws1 : va_W}
theorem XC.words {args : Array Value} (hts : ∀ w ∈ gt, w.before args s = true) (hc : Cond.code y cc nL ret ∈ gt) : ∀ w ∈ Cond.code y cc nL ret :: gt, ∀ (a' : Array Value) (U : State), s.WarmedH U.vm → w.before a' U = true := by
  intro w hw a' U hW
  have hw' : w ∈ gt := by
    rcases List.mem_cons.mp hw with h | h
    · rw [h]; exact hc
    · exact h
  exact word_at hW (gt_good w hw') (hts w hw')
theorem XC.back {args : Array Value} {v : Option Value} {len : Nat} (hM : XC l G h y cc nL ret av ws (.inl v) ws1) (hts : ∀ w ∈ gt, w.before args s = true) (hc : Cond.code y cc nL ret ∈ gt) (hi : Cond.initialized y.cls ∈ gt) (hnL : nL ≤ 21) (hf : h + 9 ≤ R.frames) (hlo : 40 * h + 240 ≤ R.locals) :
    Back l R p e below s sargs y len 8 (XPre R G av ws) (XPost G v ws1) := by
  have hws := XC.words (s := s) hts hc
  refine Back.of_free (S := headSpec (Cond.code y cc nL ret :: gt) (Rm h)) (P := va_Pc av (XP G ws)) (K := fun _ _ _ _ _ => True) (Q := XQ G (.inl v) ws1) (bytes := cc) (maxL := nL) (ret := ret)
    (E := fun a st o t L k n => k = 0 ∧ n = 0 ∧ ∀ q ∈ L, G.2.2.1 q.base) hM (show h + 8 + 1 ≤ R.frames by omega) (show 8 + (nL + 11) + (40 * h + 200) ≤ R.locals by omega) ?_ ?_ (fun _ _ _ _ _ _ _ _ _ => trivial) ?_ ?_
  · intro m meth c A a X hp
    exact ⟨atoms_intro fun w hw => hws w hw _ _ X.warmed, hws _ List.mem_cons_self _ _ X.warmed, word_at X.warmed (gt_good _ hi) (hts _ hi), hp.1, hp.2.1⟩
  · intro m meth c A a g mk X hp
    obtain ⟨-, -, rfl, hx⟩ := hp
    exact ⟨rfl, hx.blind g mk _⟩
  · intro a st o t hq
    obtain ⟨h1, h2, h3, L, h4, h5, h6⟩ := hq
    exact ⟨L, 0, 0, ⟨⟨v, h5⟩, h3, h6⟩, rfl, rfl, h4⟩
  · intro m meth c A a g mk v' t L k n X hp hq hF ⟨e1, e2, hL⟩
    subst e1; subst e2
    obtain ⟨h1, h2, h3, L', h4, h5, h6⟩ := hq
    cases h5
    exact ⟨rfl, rfl, rfl, KI.same (by rfl) h1, h2.1, h2.2, L, rfl, hL⟩
/-- a callee that throws -/
theorem XC.backT {args : Array Value} {E : String} {len : Nat} (hM : XC l G h y cc nL ret av ws (.inr E) ws1) (hts : ∀ w ∈ gt, w.before args s = true) (hc : Cond.code y cc nL ret ∈ gt) (hi : Cond.initialized y.cls ∈ gt) (hnL : nL ≤ 21) (hf : h + 9 ≤ R.frames) (hlo : 40 * h + 240 ≤ R.locals)
    {m : MethodId} {meth : Method} {c : Code} {U : State} {Ls : List Loc} {c0 s0 : Nat} {g : JFrame} {ig : Instr} {mk : MethodId} (X : Stand p l e R s m sargs below meth c U Ls c0 s0) (hg : g.method = m) (hsize : g.locals.size = c.maxLocals) (hdg : decode c.code g.pc = .ok (ig, len))
    (hW : 2 * g.monitorRoom + (g.stack.map fun v => v.category).sum ≤ 8) (hn : U.methodNamed? y = some mk) (hc1 : c0 + 1 ≤ R.cells) (hs1 : s0 + 6 ≤ R.slots) (hp : XP G ws U) :
    ∃ (q : Addr) (ce : Cell) (U' : State) (L : List Loc), Stand p l e R s m sargs below meth c U' (Ls ++ L) (c0 + 1) (s0 + 6) ∧ (∀ z ∈ L, G.2.2.1 z.base) ∧ KI G ws1 U' U'.heap ∧ U.heap.size ≤ U'.heap.size ∧ (∀ q : Nat, q < U.heap.size → ¬ G.2.2.1 q → U'.heap[q]? = U.heap[q]?) ∧
      U'.heap[q]? = some ce ∧ ce.vm = .none ∧ s.vm.findClass E = some ce.cls ∧ Steps p.tables e below (doInvoke e (U.setTop g) [] mk av.toArray).1 ((U'.setTop g).pushFrame (.throwing q)) := by
  have hws := XC.words (s := s) hts hc
  have h1 : (headSpec (Cond.code y cc nL ret :: gt) (Rm h)).pre.before av.toArray U = true := atoms_intro fun w hw => hws w hw _ _ X.warmed
  have h2 : (Cond.code y cc nL ret).before av.toArray U = true := hws _ List.mem_cons_self _ _ X.warmed
  obtain ⟨methY, cY, hmY, hcY, -, hlY, -, -, -, -⟩ := Cond.code_spec hn h2
  obtain ⟨kY, hkY, -⟩ := className_of_methodNamed hn
  have hinitY : kY.init = .initialized := Cond.initialized_spec (findClass_of_methodNamed hn) hkY (word_at (a' := av.toArray) X.warmed (gt_good _ hi) (hts _ hi))
  have hat : At U g.method c below := by rw [hg]; exact X.here
  have hlo2 : 40 * h + 240 ≤ R.locals := hlo
  have happ : (headSpec (Cond.code y cc nL ret :: gt) (Rm h)).appliesLoose y e.platform (U.calling g mk av.toArray) = true :=
    Spec.appliesLoose_calling (g := g) hat hdg hn hkY hinitY
      (X.room_calling (g := g) (R' := (headSpec (Cond.code y cc nL ret :: gt) (Rm h)).room) hsize hmY hcY (show h + 8 + 1 ≤ R.frames by omega) (by rw [hlY]; show _ + (40 * h + 200) ≤ _; omega) hc1 hs1) h1
  have hfr : (U.setTop g).frames = [.java g] ++ below := by rw [State.frames_setTop' g X.here.top, X.tail]; rfl
  obtain ⟨o, s₂, hsteps, -, hend, hq⟩ := Steps.callFree hM p X.admits X.cas X.clock (acts := []) hfr happ ⟨rfl, hp.blind g mk _⟩ trivial
  obtain ⟨k1, k2, k3, L, k4, q, ce, rfl, k5, k6, k7, k8⟩ := hq
  rw [hfr] at hend
  obtain ⟨T', X', hW', hB, ht⟩ := X.outOfThrown hg (mk := mk) (a := av.toArray) (L := L) (k := 1) (n := 6) hend k3 k8
  have hhp : T'.heap = s₂.heap := by rw [ht, throwing_heap]
  have hvm : T'.vm = s₂.vm := by rw [ht, throwing_vm]
  refine ⟨q, ce, T', L, X', k4, ?_, ?_, ?_, ?_, k6, ?_, ?_⟩
  · rw [hhp]; exact KI.same hvm.symm k1
  · rw [hhp]; exact k2.1
  · rw [hhp]; exact k2.2
  · rw [hhp]; exact k5
  · have h9 : U.vm.findClass E = some ce.cls := k7
    rw [X.warmed.alike.findClass] at h9
    exact h9
  · rw [← ht]; exact hsteps
end XB
section VC
variable {p : Program} {l : Launch} {e : Env} {R : Room} {s : State} {m : MethodId} {args : Array Value} {below : List Frame} {meth : Method} {c : Code} {G : Gm} {nL cells slots : Nat} {Q : State → Prop} {ws ws' : va_W} {pc : Nat} {lv lv' : List (Nat × Value)} {sk rest : List Value}
variable {cc : ByteArray} {ret : Option FieldType} {own : String} {H : Heap} {locs : List Loc} {ls : Array Slot}
/-- what a call hands on, at the level of heaps -/
theorem XP.at {T : State} {vm₁ : Vm} (hk : Kok G) (hK : G.2.2.2 s s.heap) (hI : KI G ws s H) (hS : ∀ q : Nat, q < s.heap.size → ¬ G.2.2.1 q → H[q]? = s.heap[q]?) (hT : T.heap = H) (hW : s.WarmedH vm₁) : XP G ws (T.setVm vm₁) := by
  refine ⟨hk, ?_, ?_⟩
  · show KI G ws (T.setVm vm₁) T.heap
    rw [hT]; exact hI.moved hW.alike
  · show G.2.2.2 (T.setVm vm₁) T.heap
    rw [hT]; exact hk.2 s (T.setVm vm₁) H hW.alike (hk.1 s s.heap H hS hK)
/-- a frame of ours with q thrown over it -/
def VT (p : Program) (l : Launch) (e : Env) (R : Room) (s : State) (m : MethodId) (args : Array Value) (below : List Frame) (meth : Method) (c : Code) (cells slots : Nat) (Q : State → Prop) (H : Heap) (locs : List Loc) (g : JFrame) (q : Addr) : Prop :=
  ∀ T : State, T.heap = H → Stand p l e R s m args below meth c T locs cells slots → ∃ t, Steps p.tables e below ((T.setTop g).pushFrame (.throwing q)) t ∧ Q t
variable {y : MethodName} {h : Nat} {ccY : ByteArray} {nLY n i : Nat} {retY : Option FieldType} {As : List Value} {b : Nat} {ws1 : va_W} {v : Option Value} {E : String}
theorem WcallV (hx : p.tables.exec = Jvm.exec) (hb : c.code = cc) (hml : c.maxLocals = nL) (hown : s.vm.findClass own = some m.cls) (hts : ∀ w ∈ gt, w.before args s = true) (hM : XC l G h y ccY nLY retY (.ref b :: As) ws (.inl v) ws1) (Y : Yw y ccY nLY retY n) (hl : Cond.methodLink own i y ∈ gt) (hcell : ∃ cellB : Cell, H[b]? = some cellB ∧ cellB.vm.isStatics = false ∧ s.vm.findClass y.cls = some cellB.cls)
    (hX : ∀ (T : State) (vm₁ : Vm), T.heap = H → s.WarmedH vm₁ → XP G ws (T.setVm vm₁)) (hn : As.length = n) (hsz : ls.size = nL) (hstk : sk = As.reverse ++ .ref b :: rest) (hW : (rest.map fun v => v.category).sum ≤ 8) (hR : Rok R h cells slots) (hd : decode cc pc = .ok (.invokevirtual i, 3))
    (kk : ∀ (H1 : Heap) (L : List Loc), KI G ws1 s H1 → H.size ≤ H1.size → (∀ q : Nat, q < H.size → ¬ G.2.2.1 q → H1[q]? = H[q]?) → (∀ z ∈ L, G.2.2.1 z.base) → W p l e R s m args below meth c H1 (locs ++ L) cells slots Q (F0 m (pc + 3) ls (v.toList ++ rest))) : W p l e R s m args below meth c H locs cells slots Q (F0 m pc ls sk) := by
  obtain ⟨y1, y2, y3, y4, y5, y6, y7⟩ := Y
  obtain ⟨r1, r2, r3, r4⟩ := hR
  obtain ⟨cellB, c1, c2, c3⟩ := hcell
  intro T hT X
  have hK := XC.back (p := p) (e := e) (below := below) (s := s) (sargs := args) (R := R) (len := 3) hM hts y3 y4 y7 r1 r2
  obtain ⟨v', vm₁, ⟨U', l2, c9, s9⟩, hW₁, X', ⟨e1, e2, e3, k1, k2, k3, L, k4, k5⟩, st⟩ := callV X hx (C := y.cls) (bytes := ccY) (maxL := nLY) (ret := retY) hown (hts _ hl) (hts _ y1) (hts _ y2) (hts _ y3) y5 hK (by rw [hT]; exact c1) c2 c3 (g := F0 m pc ls sk) rfl (by rw [hml]; exact hsz) (argsL := As) (rest := rest) (fun sig hh => by rw [hh] at y6; exact hn.trans (Option.some.inj y6).symm) hstk (lv_room hW) (by rw [hb]; exact hd)
    (fun vm₁ hW₁ => ⟨r3, r4, rfl, hX T vm₁ hT hW₁⟩)
  dsimp only [Pt.U, Pt.locs, Pt.cells, Pt.slots] at X' e1 e2 e3 k1 k2 k3 k4 st
  subst e1; subst e2; subst e3; subst k4
  have k2' : H.size ≤ U'.heap.size := by rw [← hT]; exact k2
  have k3' : ∀ q : Nat, q < H.size → ¬ G.2.2.1 q → U'.heap[q]? = H[q]? := by rw [← hT]; exact k3
  obtain ⟨t, a1, b1⟩ := kk U'.heap L (k1.moved X'.warmed.alike.symm) k2' k3' k5 U' rfl X'
  exact ⟨t, st t a1, b1⟩
theorem WcallVX (hx : p.tables.exec = Jvm.exec) (hb : c.code = cc) (hml : c.maxLocals = nL) (hown : s.vm.findClass own = some m.cls) (hts : ∀ w ∈ gt, w.before args s = true) (hM : XC l G h y ccY nLY retY (.ref b :: As) ws (.inr E) ws1) (Y : Yw y ccY nLY retY n) (hl : Cond.methodLink own i y ∈ gt) (hcell : ∃ cellB : Cell, H[b]? = some cellB ∧ cellB.vm.isStatics = false ∧ s.vm.findClass y.cls = some cellB.cls)
    (hX : ∀ (T : State) (vm₁ : Vm), T.heap = H → s.WarmedH vm₁ → XP G ws (T.setVm vm₁)) (hn : As.length = n) (hsz : ls.size = nL) (hstk : sk = As.reverse ++ .ref b :: rest) (hW : (rest.map fun v => v.category).sum ≤ 8) (hR : Rok R h cells slots) (hd : decode cc pc = .ok (.invokevirtual i, 3))
    (kk : ∀ (H1 : Heap) (L : List Loc) (q : Addr) (ce : Cell), KI G ws1 s H1 → H.size ≤ H1.size → (∀ q : Nat, q < H.size → ¬ G.2.2.1 q → H1[q]? = H[q]?) → (∀ z ∈ L, G.2.2.1 z.base) → H1[q]? = some ce → ce.vm = .none → s.vm.findClass E = some ce.cls → VT p l e R s m args below meth c (cells + 1) (slots + 6) Q H1 (locs ++ L) (F0 m pc ls rest) q) : W p l e R s m args below meth c H locs cells slots Q (F0 m pc ls sk) := by
  obtain ⟨y1, y2, y3, y4, y5, y6, y7⟩ := Y
  obtain ⟨r1, r2, r3, r4⟩ := hR
  obtain ⟨cellB, c1, c2, c3⟩ := hcell
  intro T hT X
  obtain ⟨mk, methM, hnamed, hmethM, hstM, habM⟩ := Cond.instanceMethod_spec (hts _ y1)
  obtain ⟨methM', cM, hmethM', -, -, -, -, -, -, hsigM⟩ := Cond.code_spec hnamed (hts _ y3)
  cases hmethM.symm.trans hmethM'
  obtain ⟨z2, r9, m9, q1, q2, q3, q4, kP, hkP, hkPi⟩ := Cond.selects_spec (hts _ y2)
  cases c3.symm.trans q1
  cases (State.methodFound?_of_named hnamed y5).symm.trans q2
  cases hnamed.symm.trans q3
  have hselP : selectMethod e.platform s.vm cellB.cls mk = .method mk := by rw [Launch.admits_selectMethod X.admits]; exact q4
  obtain ⟨vm₁, X₁, hstep₁⟩ := X.invokevirtual hx hown (hts _ hl) hnamed hmethM hstM hkP hkPi y5 (a := b) (cell := cellB) (by rw [hT]; exact c1)
    (fun z hz => by rw [hz] at c2; cases c2) hselP hmethM habM hkP hkPi (g := F0 m pc ls sk) rfl (argsL := As) (rest := rest) (by rw [hsigM] at y6; exact hn.trans (Option.some.inj y6).symm) hstk (by rw [hb]; exact hd)
  obtain ⟨q, ce, U', L, X', k1, k2, k3, k4, k5, k6, k7, st⟩ := XC.backT hM hts y3 y4 y7 r1 r2 X₁ (g := F0 m pc ls rest) rfl (by rw [hml]; exact hsz) (by rw [hb]; exact hd) (lv_room hW) (X₁.named hnamed) r3 r4 (hX T vm₁ hT X₁.warmed)
  have k3' : H.size ≤ U'.heap.size := by rw [← hT]; exact k3
  have k4' : ∀ q : Nat, q < H.size → ¬ G.2.2.1 q → U'.heap[q]? = H[q]? := by rw [← hT]; exact k4
  obtain ⟨t, a1, b1⟩ := kk U'.heap L q ce (k2.moved X'.warmed.alike.symm) k3' k4' k1 k5 k6 k7 U' rfl X'
  exact ⟨t, (hstep₁ _ fun acts => by rw [doInvoke_state]; exact st).trans a1, b1⟩
theorem WcallS (hx : p.tables.exec = Jvm.exec) (hb : c.code = cc) (hml : c.maxLocals = nL) (hown : s.vm.findClass own = some m.cls) (hts : ∀ w ∈ gt, w.before args s = true) (hM : XC l G h y ccY nLY retY As ws (.inl v) ws1) (Y : Ys y ccY nLY retY n) (hl : Cond.methodLink own i y ∈ gt)
    (hX : ∀ (T : State) (vm₁ : Vm), T.heap = H → s.WarmedH vm₁ → XP G ws (T.setVm vm₁)) (hn : As.length = n) (hsz : ls.size = nL) (hstk : sk = As.reverse ++ rest) (hW : (rest.map fun v => v.category).sum ≤ 8) (hR : Rok R h cells slots) (hd : decode cc pc = .ok (.invokestatic i, 3))
    (kk : ∀ (H1 : Heap) (L : List Loc), KI G ws1 s H1 → H.size ≤ H1.size → (∀ q : Nat, q < H.size → ¬ G.2.2.1 q → H1[q]? = H[q]?) → (∀ z ∈ L, G.2.2.1 z.base) → W p l e R s m args below meth c H1 (locs ++ L) cells slots Q (F0 m (pc + 3) ls (v.toList ++ rest))) : W p l e R s m args below meth c H locs cells slots Q (F0 m pc ls sk) := by
  obtain ⟨y1, y3, y4, y5, y6, y7⟩ := Y
  obtain ⟨r1, r2, r3, r4⟩ := hR
  intro T hT X
  have hK := XC.back (p := p) (e := e) (below := below) (s := s) (sargs := args) (R := R) (len := 3) hM hts y3 y4 y7 r1 r2
  obtain ⟨v', vm₁, ⟨U', l2, c9, s9⟩, hW₁, X', ⟨e1, e2, e3, k1, k2, k3, L, k4, k5⟩, st⟩ := callS X hx (bytes := ccY) (maxL := nLY) (ret := retY) hown (hts _ hl) (hts _ y1) (hts _ y4) (hts _ y3) y5 hK (g := F0 m pc ls sk) rfl (by rw [hml]; exact hsz) (argsL := As) (rest := rest) (fun sig hh => by rw [hh] at y6; exact hn.trans (Option.some.inj y6).symm) hstk (lv_room hW) (by rw [hb]; exact hd)
    (fun vm₁ hW₁ => ⟨r3, r4, rfl, hX T vm₁ hT hW₁⟩)
  dsimp only [Pt.U, Pt.locs, Pt.cells, Pt.slots] at X' e1 e2 e3 k1 k2 k3 k4 st
  subst e1; subst e2; subst e3; subst k4
  have k2' : H.size ≤ U'.heap.size := by rw [← hT]; exact k2
  have k3' : ∀ q : Nat, q < H.size → ¬ G.2.2.1 q → U'.heap[q]? = H[q]? := by rw [← hT]; exact k3
  obtain ⟨t, a1, b1⟩ := kk U'.heap L (k1.moved X'.warmed.alike.symm) k2' k3' k5 U' rfl X'
  exact ⟨t, st t a1, b1⟩
theorem WcallSX (hx : p.tables.exec = Jvm.exec) (hb : c.code = cc) (hml : c.maxLocals = nL) (hown : s.vm.findClass own = some m.cls) (hts : ∀ w ∈ gt, w.before args s = true) (hM : XC l G h y ccY nLY retY As ws (.inr E) ws1) (Y : Ys y ccY nLY retY n) (hl : Cond.methodLink own i y ∈ gt)
    (hX : ∀ (T : State) (vm₁ : Vm), T.heap = H → s.WarmedH vm₁ → XP G ws (T.setVm vm₁)) (hn : As.length = n) (hsz : ls.size = nL) (hstk : sk = As.reverse ++ rest) (hW : (rest.map fun v => v.category).sum ≤ 8) (hR : Rok R h cells slots) (hd : decode cc pc = .ok (.invokestatic i, 3))
    (kk : ∀ (H1 : Heap) (L : List Loc) (q : Addr) (ce : Cell), KI G ws1 s H1 → H.size ≤ H1.size → (∀ q : Nat, q < H.size → ¬ G.2.2.1 q → H1[q]? = H[q]?) → (∀ z ∈ L, G.2.2.1 z.base) → H1[q]? = some ce → ce.vm = .none → s.vm.findClass E = some ce.cls → VT p l e R s m args below meth c (cells + 1) (slots + 6) Q H1 (locs ++ L) (F0 m pc ls rest) q) : W p l e R s m args below meth c H locs cells slots Q (F0 m pc ls sk) := by
  obtain ⟨y1, y3, y4, y5, y6, y7⟩ := Y
  obtain ⟨r1, r2, r3, r4⟩ := hR
  intro T hT X
  obtain ⟨mk, hnamed⟩ := Cond.code_named (hts _ y3)
  obtain ⟨methM, cM, hmethM, -, -, -, -, -, -, hsigM⟩ := Cond.code_spec hnamed (hts _ y3)
  have hstatic : methM.isStatic = true := Cond.static_spec hnamed hmethM (hts _ y1)
  obtain ⟨kP, hkP, -⟩ := className_of_methodNamed hnamed
  have hinitP : kP.init = .initialized := Cond.initialized_spec (findClass_of_methodNamed hnamed) hkP (hts _ y4)
  obtain ⟨vm₁, X₁, hstep₁⟩ := X.invokestatic hx hown (hts _ hl) hnamed hmethM hstatic hkP hinitP y5 (g := F0 m pc ls sk) rfl (argsL := As) (rest := rest) (by rw [hsigM] at y6; exact hn.trans (Option.some.inj y6).symm) hstk (by rw [hb]; exact hd)
  obtain ⟨q, ce, U', L, X', k1, k2, k3, k4, k5, k6, k7, st⟩ := XC.backT hM hts y3 y4 y7 r1 r2 X₁ (g := F0 m pc ls rest) rfl (by rw [hml]; exact hsz) (by rw [hb]; exact hd) (lv_room hW) (X₁.named hnamed) r3 r4 (hX T vm₁ hT X₁.warmed)
  have k3' : H.size ≤ U'.heap.size := by rw [← hT]; exact k3
  have k4' : ∀ q : Nat, q < H.size → ¬ G.2.2.1 q → U'.heap[q]? = H[q]? := by rw [← hT]; exact k4
  obtain ⟨t, a1, b1⟩ := kk U'.heap L q ce (k2.moved X'.warmed.alike.symm) k3' k4' k1 k5 k6 k7 U' rfl X'
  exact ⟨t, (hstep₁ _ fun acts => by rw [doInvoke_state]; exact st).trans a1, b1⟩
theorem va_S.more {A : Nat → Prop} {H0 H1 : Heap} {L : List Loc} (hS : va_S A H0 H locs) (h1 : H.size ≤ H1.size) (h2 : ∀ q : Nat, q < H.size → ¬ A q → H1[q]? = H[q]?) (h3 : ∀ z ∈ L, A z.base) : va_S A H0 H1 (locs ++ L) :=
  ⟨Nat.le_trans hS.1 h1, fun q a1 a2 => (h2 q (Nat.lt_of_lt_of_le a1 hS.1) a2).trans (hS.2.1 q a1 a2), fun z hz => by
    rcases List.mem_append.mp hz with h | h
    · exact hS.2.2 z h
    · exact h3 z h⟩
/-- not caught: it leaves a method that has no table -/
theorem VT.out (hE : c.exceptionTable.isEmpty = true) (hlk : meth.locks = false) {q : Addr} {ce : Cell} (hI : KI G ws s H) (hS : va_S G.2.2.1 s.heap H locs) (h1 : H[q]? = some ce) (h2 : ce.vm = .none) (h3 : s.vm.findClass E = some ce.cls) : VT p l e R s m args below meth c 1 6 (XE below G (.inr E) ws args s) H locs (F0 m pc ls rest) q := by
  intro T hT X
  have hout : ∀ x ∈ c.exceptionTable.toList, covers x (F0 m pc ls rest).pc = false := by
    intro x hx
    rw [Array.isEmpty_iff] at hE
    rw [hE] at hx
    cases hx
  obtain ⟨st1, hrun, hend, hW, hsm⟩ := X.leaveThrown q (g := F0 m pc ls rest) rfl rfl rfl hout hlk
  have hh : (T.setFrames (.throwing q :: below)).heap = H := hT
  refine ⟨_, st1, .threw q, hrun, hend, ?_, ?_, hW, locs, hS.2.2, q, ce, rfl, ?_, h2, h3, hsm⟩
  · rw [hh]; exact hI.moved hW.alike
  · exact hS.F hh
  · rw [hh]; exact h1
theorem V.callV (C : Cx p s m args meth c G cc nL ret own) (hM : XC l G h y ccY nLY retY (.ref b :: As) ws (.inl v) ws1) (Y : Yw y ccY nLY retY n) (hl : Cond.methodLink own i y ∈ gt) {ci N : Nat} {T : u_T} {fs : List Value} (q0 : Nat) (he : ws[q0]? = some (b, .inr (ci, fs))) (hc : classes[ci]? = some (y.cls, T, N)) (hn : As.length = n) (hstk : sk = As.reverse ++ .ref b :: rest) (hW : Nat.ble (rest.map fun v => v.category).sum 8 = true) (hR : Rok R h cells slots) (hd : decode cc pc = .ok (.invokevirtual i, 3))
    (kk : V p l e R s m args below meth c G nL cells slots Q ws1 (pc + 3) lv (v.toList ++ rest)) : V p l e R s m args below meth c G nL cells slots Q ws pc lv sk := by
  obtain ⟨hx, hb, hml, hown, hts, hr, hlk, hE, hk, hK, hns⟩ := C
  intro H locs ls hI hS hlv
  exact WcallV hx hb hml hown hts hM Y hl (va_recv hI.1 hI.2.1 (ci := ci) (q0 := q0) hc he) (fun T vm₁ hT hW => XP.at hk hK hI hS.2.1 hT hW) hn hlv.1 hstk (Nat.le_of_ble_eq_true hW) hR hd (fun H1 L k1 k2 k3 k4 => kk H1 _ ls k1 (hS.more k2 k3 k4) hlv)
theorem V.callVX (C : Cx p s m args meth c G cc nL ret own) (hM : XC l G h y ccY nLY retY (.ref b :: As) ws (.inr E) ws1) (Y : Yw y ccY nLY retY n) (hl : Cond.methodLink own i y ∈ gt) {ci N : Nat} {T : u_T} {fs : List Value} (q0 : Nat) (he : ws[q0]? = some (b, .inr (ci, fs))) (hc : classes[ci]? = some (y.cls, T, N)) (hn : As.length = n) (hstk : sk = As.reverse ++ .ref b :: rest) (hW : Nat.ble (rest.map fun v => v.category).sum 8 = true) (hR : Rok R h 0 0) (hd : decode cc pc = .ok (.invokevirtual i, 3))
    {o : Oc} (ho : o = .inr E) (hw : ws1 = ws') : V p l e R s m args below meth c G nL 0 0 (XE below G o ws' args s) ws pc lv sk := by
  subst ho; subst hw
  obtain ⟨hx, hb, hml, hown, hts, hr, hlk, hE, hk, hK, hns⟩ := C
  intro H locs ls hI hS hlv
  exact WcallVX hx hb hml hown hts hM Y hl (va_recv hI.1 hI.2.1 (ci := ci) (q0 := q0) hc he) (fun T vm₁ hT hW => XP.at hk hK hI hS.2.1 hT hW) hn hlv.1 hstk (Nat.le_of_ble_eq_true hW) hR hd (fun H1 L q ce k1 k2 k3 k4 k5 k6 k7 => VT.out hE hlk k1 (hS.more k2 k3 k4) k5 k6 k7)
theorem V.callS (C : Cx p s m args meth c G cc nL ret own) (hM : XC l G h y ccY nLY retY As ws (.inl v) ws1) (Y : Ys y ccY nLY retY n) (hl : Cond.methodLink own i y ∈ gt) (hn : As.length = n) (hstk : sk = As.reverse ++ rest) (hW : Nat.ble (rest.map fun v => v.category).sum 8 = true) (hR : Rok R h cells slots) (hd : decode cc pc = .ok (.invokestatic i, 3))
    (kk : V p l e R s m args below meth c G nL cells slots Q ws1 (pc + 3) lv (v.toList ++ rest)) : V p l e R s m args below meth c G nL cells slots Q ws pc lv sk := by
  obtain ⟨hx, hb, hml, hown, hts, hr, hlk, hE, hk, hK, hns⟩ := C
  intro H locs ls hI hS hlv
  exact WcallS hx hb hml hown hts hM Y hl (fun T vm₁ hT hW => XP.at hk hK hI hS.2.1 hT hW) hn hlv.1 hstk (Nat.le_of_ble_eq_true hW) hR hd (fun H1 L k1 k2 k3 k4 => kk H1 _ ls k1 (hS.more k2 k3 k4) hlv)
theorem V.callSX (C : Cx p s m args meth c G cc nL ret own) (hM : XC l G h y ccY nLY retY As ws (.inr E) ws1) (Y : Ys y ccY nLY retY n) (hl : Cond.methodLink own i y ∈ gt) (hn : As.length = n) (hstk : sk = As.reverse ++ rest) (hW : Nat.ble (rest.map fun v => v.category).sum 8 = true) (hR : Rok R h 0 0) (hd : decode cc pc = .ok (.invokestatic i, 3))
    {o : Oc} (ho : o = .inr E) (hw : ws1 = ws') : V p l e R s m args below meth c G nL 0 0 (XE below G o ws' args s) ws pc lv sk := by
  subst ho; subst hw
  obtain ⟨hx, hb, hml, hown, hts, hr, hlk, hE, hk, hK, hns⟩ := C
  intro H locs ls hI hS hlv
  exact WcallSX hx hb hml hown hts hM Y hl (fun T vm₁ hT hW => XP.at hk hK hI hS.2.1 hT hW) hn hlv.1 hstk (Nat.le_of_ble_eq_true hW) hR hd (fun H1 L q ce k1 k2 k3 k4 k5 k6 k7 => VT.out hE hlk k1 (hS.more k2 k3 k4) k5 k6 k7)
theorem V.callV1 {x : Value} (C : Cx p s m args meth c G cc nL ret own) (hM : XC l G h y ccY nLY retY (.ref b :: As) ws (.inl (some x)) ws1) (Y : Yw y ccY nLY retY n) (hl : Cond.methodLink own i y ∈ gt) {ci N : Nat} {T : u_T} {fs : List Value} (q0 : Nat) (he : ws[q0]? = some (b, .inr (ci, fs))) (hc : classes[ci]? = some (y.cls, T, N)) (hn : As.length = n) (hstk : sk = As.reverse ++ .ref b :: rest) (hW : Nat.ble (rest.map fun v => v.category).sum 8 = true) (hR : Rok R h cells slots) (hd : decode cc pc = .ok (.invokevirtual i, 3))
    (kk : V p l e R s m args below meth c G nL cells slots Q ws1 (pc + 3) lv (x :: rest)) : V p l e R s m args below meth c G nL cells slots Q ws pc lv sk := V.callV C hM Y hl q0 he hc hn hstk hW hR hd kk
theorem V.callV0 (C : Cx p s m args meth c G cc nL ret own) (hM : XC l G h y ccY nLY retY (.ref b :: As) ws (.inl none) ws1) (Y : Yw y ccY nLY retY n) (hl : Cond.methodLink own i y ∈ gt) {ci N : Nat} {T : u_T} {fs : List Value} (q0 : Nat) (he : ws[q0]? = some (b, .inr (ci, fs))) (hc : classes[ci]? = some (y.cls, T, N)) (hn : As.length = n) (hstk : sk = As.reverse ++ .ref b :: rest) (hW : Nat.ble (rest.map fun v => v.category).sum 8 = true) (hR : Rok R h cells slots) (hd : decode cc pc = .ok (.invokevirtual i, 3))
    (kk : V p l e R s m args below meth c G nL cells slots Q ws1 (pc + 3) lv rest) : V p l e R s m args below meth c G nL cells slots Q ws pc lv sk := V.callV C hM Y hl q0 he hc hn hstk hW hR hd kk
theorem V.callS1 {x : Value} (C : Cx p s m args meth c G cc nL ret own) (hM : XC l G h y ccY nLY retY As ws (.inl (some x)) ws1) (Y : Ys y ccY nLY retY n) (hl : Cond.methodLink own i y ∈ gt) (hn : As.length = n) (hstk : sk = As.reverse ++ rest) (hW : Nat.ble (rest.map fun v => v.category).sum 8 = true) (hR : Rok R h cells slots) (hd : decode cc pc = .ok (.invokestatic i, 3))
    (kk : V p l e R s m args below meth c G nL cells slots Q ws1 (pc + 3) lv (x :: rest)) : V p l e R s m args below meth c G nL cells slots Q ws pc lv sk := V.callS C hM Y hl hn hstk hW hR hd kk
end VC
end
section
/-! ===== what is constant from the start ===== -/
def kdNames : List String := ["VAR", "PROC", "BEGIN", "END", "IF", "THEN", "ELSE", "WHILE", "DO", "WRITE", "ASSIGN", "SEMICOLON", "COMMA", "OPEN", "CLOSE", "DOT", "EQUAL", "LESS", "GREATER", "PLUS", "MINUS", "TIMES", "OVER", "REST", "AT", "NAME", "NUMBER", "NO_TOKEN", "NOTHING"]
/-- the spellings, as bytes -/
def kdSp : List (List Nat) := [[118, 97, 114], [112, 114, 111, 99], [98, 101, 103, 105, 110], [101, 110, 100], [105, 102], [116, 104, 101, 110], [101, 108, 115, 101], [119, 104, 105, 108, 101], [100, 111], [119, 114, 105, 116, 101], [58, 61], [59], [44], [40], [41], [46], [61], [60], [62], [43], [45], [42], [47], [37], [64], [], [], [], []]
/-- the table by which a switch over the kinds goes -/
def kdSw : List Nat := [0, 0, 2, 0, 3, 0, 0, 4, 0, 5, 0, 0, 0, 13, 0, 0, 6, 7, 8, 0, 0, 9, 10, 11, 0, 1, 12, 0, 0]
def spl (k : Nat) : List Nat := kdSp.getD k []
def swm (k : Nat) : Nat := kdSw.getD k 0
/-- a static that nobody writes and of which only 'a reference' is known, with all that a throw asks of it -/
def Ks (C n d : String) (A : Nat → Prop) (U : State) (H : Heap) : Prop := ∃ (c : ClassId) (k : Class) (i : Nat) (f : Field) (a : Nat) (cell : Cell) (v : Value), U.vm.findClass C = some c ∧ U.fieldFound? C n d = some (c, k, i, f) ∧ f.isStatic = true ∧ k.statics = some a ∧ H[a]? = some cell ∧ cell.vm.isStatics = true ∧ cell.cls = c ∧ f.slot < cell.slots.size ∧ k.staticTypes[f.slot]? = some f.type ∧ cell.slots[f.slot]? = some v ∧ v.isRef = true ∧ ¬ A a
theorem Ks.moved {C n d : String} {A : Nat → Prop} {u U : State} {H : Heap} (hvm : u.vm.Alike U.vm) (h : Ks C n d A u H) : Ks C n d A U H := by
  obtain ⟨c, k, i, f, a, cell, v, h1, h2, h3, h4, h5, h6, h7, h8, h9, h10⟩ := h
  obtain ⟨k', hi', he⟩ := State.fieldFound?_setVm hvm h2
  exact ⟨c, k', i, f, a, cell, v, by rw [hvm.findClass]; exact h1, hi', h3, by rw [he]; exact h4, h5, h6, h7, h8, by rw [he]; exact h9, h10⟩
theorem Ks.kept {C n d : String} {A : Nat → Prop} {U : State} {H H1 : Heap} (h : Ks C n d A U H) (hq : ∀ a : Nat, a < H.size → ¬ A a → H1[a]? = H[a]?) : Ks C n d A U H1 := by
  obtain ⟨c, k, i, f, a, cell, v, h1, h2, h3, h4, h5, h6, h7, h8, h9, h10, h11, h12⟩ := h
  exact ⟨c, k, i, f, a, cell, v, h1, h2, h3, h4, by rw [hq a (Array.getElem?_eq_some_iff.mp h5).1 h12]; exact h5, h6, h7, h8, h9, h10, h11, h12⟩
theorem Ks.lays {C n d : String} {A : Nat → Prop} {s : State} {args : Array Value} (h : Ks C n d A s s.heap) : (Cond.laysStatic C n d).before args s = true := by
  obtain ⟨c, k, i, f, a, cell, v, h1, h2, h3, h4, h5, h6, h7, h8, h9, -⟩ := h
  show (Cond.laysStatic C n d).holds args s none s [] = true
  exact Cond.laysStatic_of h1 h2 h3 h4 h5 h6 h7 h8 h9
theorem Ks.isRef {C n d : String} {A : Nat → Prop} {s : State} {args : Array Value} (h : Ks C n d A s s.heap) : (Cond.isRef (.static C n d)).before args s = true := by
  obtain ⟨c, k, i, f, a, cell, v, h1, h2, h3, h4, h5, h6, h7, h8, h9, h10, h11, -⟩ := h
  have he : (Term.static C n d).eval args s none [] s = some v := by simp [Term.eval, State.fieldNamed?, h2, h3, h4, h5, h6, h10]
  simp only [Cond.before, Cond.holds, Cond.value, he]
  cases v <;> simp_all [Value.isRef]
theorem xWords.moved {u U : State} (hvm : u.vm.Alike U.vm) (h : ∀ w ∈ xWords, w.before #[] u = true) : ∀ w ∈ xWords, w.before #[] U = true := by
  have kc : ∀ C T : String, (Cond.castable C T).before #[] u = true → (Cond.castable C T).before #[] U = true := fun C T h1 => va_tabs rfl (rfl : (u.setVm U.vm).vm = U.vm) (by rw [Cond.castable_setVm hvm]; exact h1)
  have kd : ∀ x : MethodName, (Cond.declares x).before #[] u = true → (Cond.declares x).before #[] U = true := fun x h1 => va_tabs rfl (rfl : (u.setVm U.vm).vm = U.vm) (by rw [Cond.declares_setVm hvm]; exact h1)
  intro w hw
  have h0 := h w hw
  simp only [xWords, List.mem_cons, List.not_mem_nil, or_false] at hw
  rcases hw with rfl | rfl | rfl | rfl | rfl | rfl | rfl | rfl
  · exact kc _ _ h0
  · exact kc _ _ h0
  · exact kc _ _ h0
  · exact kc _ _ h0
  · exact kc _ _ h0
  · exact kd _ h0
  · exact kd _ h0
  · exact kd _ h0
theorem xWords.use {args : Array Value} {U : State} (h : ∀ w ∈ xWords, w.before #[] U = true) : ∀ w ∈ xWords, w.before args U = true := by
  intro w hw
  have h0 := h w hw
  simp only [xWords, List.mem_cons, List.not_mem_nil, or_false] at hw
  rcases hw with rfl | rfl | rfl | rfl | rfl | rfl | rfl | rfl <;> exact va_tabs rfl rfl h0
/-- where the constants lie: the kinds, their spellings, the spellings' bytes, the switch table, the array KINDS -/
abbrev Kt : Type := (Nat → Nat) × (Nat → Nat) × (Nat → Nat) × Nat × Nat
abbrev R_Kd : String := "PascalMachine$Kind"
abbrev L_Kd : String := "LPascalMachine$Kind;"
def KK (A : Nat → Prop) (q : Kt) (U : State) (H : Heap) : Prop :=
  (∀ i : Nat, i < 29 → va_Z R_Kd (kdNames.getD i "") L_Kd (.ref (q.1 i)) A U H ∧ va_O R_Kd (q.1 i) A U H ∧ va_OF "java/lang/Enum" "ordinal" "I" (.int (nI i)) (q.1 i) A U H ∧ va_OF R_Kd "spelling" "Ljava/lang/String;" (.ref (q.2.1 i)) (q.1 i) A U H ∧
    va_O "java/lang/String" (q.2.1 i) A U H ∧ va_OF "java/lang/String" "coder" "B" (.int (nI 0)) (q.2.1 i) A U H ∧ va_OF "java/lang/String" "value" "[B" (.ref (q.2.2.1 i)) (q.2.1 i) A U H ∧ va_T .byte (q.2.2.1 i) (spl i).length (fun j => .int (nI ((spl i).getD j 0))) A U H) ∧
  va_Z "PascalMachine$1" "$SwitchMap$PascalMachine$Kind" "[I" (.ref q.2.2.2.1) A U H ∧ va_T .int q.2.2.2.1 29 (fun j => .int (nI (swm j))) A U H ∧
  va_Z "PascalMachine$Tokens" "KINDS" "[LPascalMachine$Kind;" (.ref q.2.2.2.2) A U H ∧ va_T (.object R_Kd) q.2.2.2.2 29 (fun j => .ref (q.1 j)) A U H ∧
  va_Z "java/lang/String" "COMPACT_STRINGS" "Z" (.int (nI 1)) A U H ∧ va_Zq "jdk/internal/util/Preconditions" "SIOOBE_FORMATTER" "Ljava/util/function/BiFunction;" A U H ∧
  Ks Bundle.tN "UNASSIGNED_STACK" Bundle.steD A U H ∧ Ks Bundle.tN "SUPPRESSED_SENTINEL" Bundle.listD A U H ∧ ∀ w ∈ xWords, w.before #[] U = true
theorem KK.moved {A : Nat → Prop} {q : Kt} {u U : State} {H : Heap} (hvm : u.vm.Alike U.vm) (h : KK A q u H) : KK A q U H := by
  obtain ⟨h1, h2, h3, h4, h5, h6, h7, h8, h9, h10⟩ := h
  refine ⟨fun i hi => ?_, va_Z.moved hvm h2, va_T.moved hvm h3, va_Z.moved hvm h4, va_T.moved hvm h5, va_Z.moved hvm h6, va_Zq.moved hvm h7, Ks.moved hvm h8, Ks.moved hvm h9, xWords.moved hvm h10⟩
  obtain ⟨a1, a2, a3, a4, a5, a6, a7, a8⟩ := h1 i hi
  exact ⟨va_Z.moved hvm a1, va_O.moved hvm a2, va_OF.moved hvm a3, va_OF.moved hvm a4, va_O.moved hvm a5, va_OF.moved hvm a6, va_OF.moved hvm a7, va_T.moved hvm a8⟩
theorem KK.kept {A : Nat → Prop} {q : Kt} {U : State} {H H1 : Heap} (h : KK A q U H) (hq : ∀ a : Nat, a < H.size → ¬ A a → H1[a]? = H[a]?) : KK A q U H1 := by
  obtain ⟨h1, h2, h3, h4, h5, h6, h7, h8, h9, h10⟩ := h
  refine ⟨fun i hi => ?_, h2.kept hq, h3.kept hq, h4.kept hq, h5.kept hq, h6.kept hq, h7.kept hq, h8.kept hq, h9.kept hq, h10⟩
  obtain ⟨a1, a2, a3, a4, a5, a6, a7, a8⟩ := h1 i hi
  exact ⟨a1.kept hq, a2.kept hq, a3.kept hq, a4.kept hq, a5.kept hq, a6.kept hq, a7.kept hq, a8.kept hq⟩
/-- all that is fixed: classes and slots; the array classes of int, long, char, kind; what may be written; the constants -/
abbrev Zt : Type := va_G × (ClassId × ClassId × ClassId × ClassId) × (Nat → Prop) × Kt
def Gz (z : Zt) : Gm := (z.1, [(z.2.1.1, .int), (z.2.1.2.1, .long), (z.2.1.2.2.1, .char), (z.2.1.2.2.2, .object R_Kd)], z.2.2.1, KK z.2.2.1 z.2.2.2)
theorem Gz_ok (z : Zt) : Kok (Gz z) := ⟨fun _ _ _ hq h => KK.kept h hq, fun _ _ _ hvm h => KK.moved hvm h⟩
/-- the address of the kind k -/
def ek (z : Zt) (k : Nat) : Nat := z.2.2.2.1 k
theorem ek_inj {z : Zt} {U : State} {H : Heap} (h : KK z.2.2.1 z.2.2.2 U H) {i j : Nat} (hi : i < 29) (hj : j < 29) (he : ek z i = ek z j) : i = j := by
  obtain ⟨cf, k, x, f, cell, q1, q2, q3, q4, q5, -⟩ := (h.1 i hi).2.2.1
  obtain ⟨cf', k', x', f', cell', r1, r2, r3, r4, r5, -⟩ := (h.1 j hj).2.2.1
  cases q1.symm.trans r1
  have e1 : z.2.2.2.1 i = z.2.2.2.1 j := he
  rw [e1] at q3
  cases q3.symm.trans r3
  have e2 := q5.symm.trans r5
  have e3 : nI i = nI j := by injection e2 with e2; injection e2
  exact (nI_eq (by omega) (by omega)).mp e3
section VK
variable {p : Program} {l : Launch} {e : Env} {R : Room} {s : State} {m : MethodId} {args : Array Value} {below : List Frame} {meth : Method} {c : Code} {z : Zt} {nL cells slots : Nat} {Q : State → Prop} {ws ws' : va_W} {pc : Nat} {lv lv' : List (Nat × Value)} {sk rest : List Value}
variable {cc : ByteArray} {ret : Option FieldType} {own : String}
theorem Cx.kk {G : Gm} (C : Cx p s m args meth c G cc nL ret own) : G.2.2.2 s s.heap := C.2.2.2.2.2.2.2.2.2.1
theorem V.getK (C : Cx p s m args meth c (Gz z) cc nL ret own) {i : Nat} (k : Nat) (hk0 : k < 29) (hw : Cond.fieldLink own i R_Kd (kdNames.getD k "") L_Kd ∈ gt) (hd : decode cc pc = .ok (.getstatic i, 3)) (kk : V p l e R s m args below meth c (Gz z) nL cells slots Q ws (pc + 3) lv (.ref (ek z k) :: sk)) : V p l e R s m args below meth c (Gz z) nL cells slots Q ws pc lv sk := by
  have hK0 : KK z.2.2.1 z.2.2.2 s s.heap := C.kk
  obtain ⟨hx, hb, hml, hown, hts, hr, hlk, hE, hk, hK, hns⟩ := C
  intro H locs ls hI hS hl
  exact va_gets (A := (Gz z).2.2.1) hx hb (hK0.1 k hk0).1 hS hown (hts _ hw) (fun _ h => h) hd (kk H locs ls hI hS hl)
theorem V.getSw (C : Cx p s m args meth c (Gz z) cc nL ret own) {i : Nat} (hw : Cond.fieldLink own i "PascalMachine$1" "$SwitchMap$PascalMachine$Kind" "[I" ∈ gt) (hd : decode cc pc = .ok (.getstatic i, 3)) (kk : V p l e R s m args below meth c (Gz z) nL cells slots Q ws (pc + 3) lv (.ref z.2.2.2.2.2.2.1 :: sk)) : V p l e R s m args below meth c (Gz z) nL cells slots Q ws pc lv sk := by
  have hK0 : KK z.2.2.1 z.2.2.2 s s.heap := C.kk
  obtain ⟨hx, hb, hml, hown, hts, hr, hlk, hE, hk, hK, hns⟩ := C
  intro H locs ls hI hS hl
  exact va_gets (A := (Gz z).2.2.1) hx hb hK0.2.1 hS hown (hts _ hw) (fun _ h => h) hd (kk H locs ls hI hS hl)
theorem V.ldSw (C : Cx p s m args meth c (Gz z) cc nL ret own) {k : Nat} (hk0 : k < 29) (hd : decode cc pc = .ok (.iaload, 1)) (kk : V p l e R s m args below meth c (Gz z) nL cells slots Q ws (pc + 1) lv (.int (nI (swm k)) :: sk)) : V p l e R s m args below meth c (Gz z) nL cells slots Q ws pc lv (.int (nI k) :: .ref z.2.2.2.2.2.2.1 :: sk) := by
  have hK0 : KK z.2.2.1 z.2.2.2 s s.heap := C.kk
  obtain ⟨hx, hb, hml, hown, hts, hr, hlk, hE, hk, hK, hns⟩ := C
  intro H locs ls hI hS hl
  exact va_ti (A := (Gz z).2.2.1) hx hb hK0.2.2.1 hS (vp_in_nI hk0 (by omega)) (by rw [nI_clamp (by omega)]) hd (kk H locs ls hI hS hl)
theorem V.getKs (C : Cx p s m args meth c (Gz z) cc nL ret own) {i : Nat} (hw : Cond.fieldLink own i "PascalMachine$Tokens" "KINDS" "[LPascalMachine$Kind;" ∈ gt) (hd : decode cc pc = .ok (.getstatic i, 3)) (kk : V p l e R s m args below meth c (Gz z) nL cells slots Q ws (pc + 3) lv (.ref z.2.2.2.2.2.2.2 :: sk)) : V p l e R s m args below meth c (Gz z) nL cells slots Q ws pc lv sk := by
  have hK0 : KK z.2.2.1 z.2.2.2 s s.heap := C.kk
  obtain ⟨hx, hb, hml, hown, hts, hr, hlk, hE, hk, hK, hns⟩ := C
  intro H locs ls hI hS hl
  exact va_gets (A := (Gz z).2.2.1) hx hb hK0.2.2.2.1 hS hown (hts _ hw) (fun _ h => h) hd (kk H locs ls hI hS hl)
theorem V.lenKs (C : Cx p s m args meth c (Gz z) cc nL ret own) (hd : decode cc pc = .ok (.arraylength, 1)) (kk : V p l e R s m args below meth c (Gz z) nL cells slots Q ws (pc + 1) lv (.int (nI 29) :: sk)) : V p l e R s m args below meth c (Gz z) nL cells slots Q ws pc lv (.ref z.2.2.2.2.2.2.2 :: sk) := by
  have hK0 : KK z.2.2.1 z.2.2.2 s s.heap := C.kk
  obtain ⟨hx, hb, hml, hown, hts, hr, hlk, hE, hk, hK, hns⟩ := C
  intro H locs ls hI hS hl
  exact va_tlen (A := (Gz z).2.2.1) hx hb hK0.2.2.2.2.1 hS rfl hd (kk H locs ls hI hS hl)
theorem V.ldKs (C : Cx p s m args meth c (Gz z) cc nL ret own) {k : Nat} (hk0 : k < 29) (hd : decode cc pc = .ok (.aaload, 1)) (kk : V p l e R s m args below meth c (Gz z) nL cells slots Q ws (pc + 1) lv (.ref (ek z k) :: sk)) : V p l e R s m args below meth c (Gz z) nL cells slots Q ws pc lv (.int (nI k) :: .ref z.2.2.2.2.2.2.2 :: sk) := by
  have hK0 : KK z.2.2.1 z.2.2.2 s s.heap := C.kk
  obtain ⟨hx, hb, hml, hown, hts, hr, hlk, hE, hk, hK, hns⟩ := C
  intro H locs ls hI hS hl
  exact vb_tq (A := (Gz z).2.2.1) hx hb hK0.2.2.2.2.1 hS (vp_in_nI hk0 (by omega)) (by rw [nI_clamp (by omega)]; rfl) hd (kk H locs ls hI hS hl)
theorem V.getSp (C : Cx p s m args meth c (Gz z) cc nL ret own) {i k : Nat} (hk0 : k < 29) (hw : Cond.fieldLink own i R_Kd "spelling" "Ljava/lang/String;" ∈ gt) (hd : decode cc pc = .ok (.getfield i, 3)) (kk : V p l e R s m args below meth c (Gz z) nL cells slots Q ws (pc + 3) lv (.ref (z.2.2.2.2.1 k) :: sk)) : V p l e R s m args below meth c (Gz z) nL cells slots Q ws pc lv (.ref (ek z k) :: sk) := by
  have hK0 : KK z.2.2.1 z.2.2.2 s s.heap := C.kk
  obtain ⟨hx, hb, hml, hown, hts, hr, hlk, hE, hk, hK, hns⟩ := C
  intro H locs ls hI hS hl
  exact vk_getf (A := (Gz z).2.2.1) hx hb (hK0.1 k hk0).2.2.2.1 hS hown (hts _ hw) (fun _ h => h) hd (kk H locs ls hI hS hl)
/-- the same walk, as if the method had been called just now: nothing written yet -/
theorem stand_anew {T : State} {locs : List Loc} (X : Stand p l e R s m args below meth c T locs 0 0) : Stand p l e R ((T.setVm s.vm).setFrames (.invoking m args :: below)) m args below meth c T [] 0 0 := by
  obtain ⟨g₀, hfr⟩ := X.frames_eq
  have hcur : T.cur < T.threads.size := State.cur_lt_of_frames hfr
  have hF : ((T.setVm s.vm).setFrames (.invoking m args :: below)).frames = .invoking m args :: below := State.frames_setFrames _ hcur
  have hsz : T.heap.size ≤ s.heap.size := X.heapSize
  have hus : T.slotsUsed ≤ s.slotsUsed := X.used
  have hme : e.platform.stackLimits ((T.setVm s.vm).setFrames (.invoking m args :: below)).me = e.platform.stackLimits s.me := by
    rw [State.stackLimits_setFrames]; exact X.limits
  have hby : ((T.setVm s.vm).setFrames (.invoking m args :: below)).me.stackBytes = s.me.stackBytes := by
    rw [State.stackBytes_setFrames]; exact X.bytes
  have hroom : ((T.setVm s.vm).setFrames (.invoking m args :: below)).hasRoom e.platform R = true := by
    have hr := X.room
    have hlu : ((T.setVm s.vm).setFrames (.invoking m args :: below)).localsInUse = s.localsInUse := by
      rw [State.localsInUse_invoking hF (meth := meth) (c := c) X.method X.code, State.localsInUse_invoking X.frames X.method X.code]
    unfold State.hasRoom at hr ⊢
    rw [hF, hlu, hme, hby]
    rw [X.frames] at hr
    simp only [Bool.and_eq_true, decide_eq_true_eq] at hr ⊢
    obtain ⟨⟨⟨⟨r1, r2⟩, r3⟩, r4⟩, r5⟩ := hr
    refine ⟨⟨⟨⟨r1, r2⟩, ?_⟩, ?_⟩, X.book⟩
    · show T.heap.size + R.cells ≤ _
      omega
    · show T.slotsUsed + R.slots ≤ _
      omega
  refine ⟨X.admits, X.cas, X.clock, hF, hroom, X.hears, X.method, X.code, X.here, X.tail, X.warmed, X.limits.trans hme.symm, X.bytes.trans hby.symm, ?_⟩
  have hdrop : T.heap.toList.drop T.heap.size = [] := List.drop_eq_nil_of_le (by rw [Array.length_toList]; exact Nat.le_refl _)
  refine ⟨?_, Nat.le_refl _, Nat.le_refl _, ?_, ?_, fun a c9 h9 => ⟨c9, h9, rfl, rfl, fun _ _ => rfl⟩⟩
  · obtain ⟨th, hth, -⟩ := State.frames_cons hfr
    show T.setVm s.vm = { ((T.setVm s.vm).setFrames (.invoking m args :: below)).setFrames (T.setVm s.vm).frames with heap := T.heap, slotsUsed := T.slotsUsed }
    rw [State.setFrames_setFrames, State.setFrames_self (s := T.setVm s.vm) hth]
    rfl
  · show T.slotsUsed = T.slotsUsed + ((T.heap.toList.drop T.heap.size).map (·.slots.size)).sum
    rw [hdrop]; rfl
  · show ((T.heap.toList.drop T.heap.size).map (·.slots.size)).sum ≤ 0
    rw [hdrop]; exact Nat.le_refl _
/-- 'throw new E()': new, dup, invokespecial, athrow -/
theorem V.throw0 (C : Cx p s m args meth c (Gz z) cc nL ret own) (hlt : l.stackTraces = false) {cls : String} {names : List String} {ik ic : Nat} (hcls : Bundle.fit cls = true) (hnames : ∀ n ∈ names, Bundle.fit n = true) (hk1 : Cond.classLink own ik cls ∈ gt) (hi1 : Cond.initialized cls ∈ gt)
    (hat : (Bundle.ownAtoms0 own ic cls names).all oaB = true)
    (d0 : decode cc pc = .ok (.new ik, 3)) (d3 : decode cc (pc + 3) = .ok (.dup, 1)) (d4 : decode cc (pc + 4) = .ok (.invokespecial ic, 3)) (d7 : decode cc (pc + 7) = .ok (.athrow, 1))
    (hf : names.length + 3 < R.frames) (hlo : (sk.map fun v => v.category).sum + (13 * (names.length + 1) + 42) ≤ R.locals) (hc1 : 1 ≤ R.cells) (hs1 : 6 ≤ R.slots) {o : Oc} (ho : o = .inr cls) (hw : ws = ws') : V p l e R s m args below meth c (Gz z) nL 0 0 (XE below (Gz z) o ws' args s) ws pc lv sk := by
  subst ho; subst hw
  have hK0 : KK z.2.2.1 z.2.2.2 s s.heap := C.kk
  obtain ⟨hx, hb, hml, hown, hts, hr, hlk, hE, hk, hK, hns⟩ := C
  intro H locs ls hI hS hl T hT X
  have htr : e.platform.stackTraces = false := (show e.platform.stackTraces = l.stackTraces by rw [X.admits.platform]).trans hlt
  have Y := stand_anew X
  obtain ⟨s', hs'⟩ : ∃ q, q = (T.setVm s.vm).setFrames (.invoking m args :: below) := ⟨_, rfl⟩
  rw [← hs'] at Y
  have hvm : s'.vm = s.vm := by rw [hs']; rfl
  have hhp : s'.heap = H := by rw [hs']; exact hT
  have hW0 : s.WarmedH s'.vm := by rw [hvm]; exact State.WarmedH.refl s
  have hts' : ∀ w ∈ gt, w.before args s' = true := fun w hw => word_at hW0 (gt_good w hw) (hts w hw)
  have hown' : s'.vm.findClass own = some m.cls := by rw [hvm]; exact hown
  have hK1 : KK z.2.2.1 z.2.2.2 s' s'.heap := by
    rw [hhp]; exact KK.moved hW0.alike (hK0.kept hS.2.1)
  have hall : ∀ w ∈ Bundle.ownAtoms0 own ic cls names, w.before args s' = true := by
    intro w hw
    have h1 := List.all_eq_true.mp hat w hw
    simp only [oaB, Bool.or_eq_true, Bool.and_eq_true, decide_eq_true_eq] at h1
    rcases h1 with ((((⟨h, hg⟩ | h) | h) | h) | h) | h
    · exact hts' w (List.mem_filter.mpr ⟨h, hg⟩)
    · exact xWords.use hK1.2.2.2.2.2.2.2.2.2 w h
    · rw [h]; exact hK1.2.2.2.2.2.2.2.1.isRef
    · rw [h]; exact hK1.2.2.2.2.2.2.2.2.1.isRef
    · rw [h]; exact hK1.2.2.2.2.2.2.2.1.lays
    · rw [h]; exact hK1.2.2.2.2.2.2.2.2.1.lays
  have hins : (Cond.instantiable cls 6).before args s' = true := hall _ (by simp [Bundle.ownAtoms0])
  obtain ⟨vm₁, cX, kX, hfX, hkX, -, -, X₁, st1⟩ := Y.newCold hx (own := own) (C := cls) (index := ik) (n := 6) hown' (hts' _ hk1) hins (hts' _ hi1) (g := F0 m pc ls sk) rfl (by rw [hb]; exact d0) (by omega) (by omega)
  generalize hT1 : (T.setVm vm₁).pushCell { cls := cX, slots := kX.instanceTypes.map defaultValue, vm := .none } = T1 at X₁ st1
  have hcellA : T1.heap[T.heap.size]? = some (freshCell cX kX) := by rw [← hT1]; exact State.heap_pushCell_size _ _
  have hout : ∀ x ∈ c.exceptionTable.toList, covers x (pc + 4 + 3) = false := by
    intro x hx'
    rw [Array.isEmpty_iff] at hE
    rw [hE] at hx'
    cases hx'
  have hcat : (Value.ref T.heap.size).category = 1 := rfl
  have d3' : decode c.code (pc + 3) = .ok (.dup, 1) := by rw [hb]; exact d3
  obtain ⟨U, hsteps, hrun, hend, hW, hsame, ce, hce, hO⟩ := X₁.ctorThrow0 hx htr (own := own) (cls := cls) (names := names) (ic := ic) hown' hcls hnames hall (fun x hx' => nomatch hx') hfX hkX hcellA (by rw [hhp, hT]; exact Nat.le_refl _)
    (g := { method := m, pc := pc + 4, locals := ls, stack := .ref T.heap.size :: .ref T.heap.size :: sk, locked := none }) rfl (by rw [hml]; exact hl.1) rfl rfl (rest := sk) rfl
    (by rw [hb]; exact d4) (by rw [hb]; exact d7) hout hf (by simp only [List.map_cons, List.sum_cons, hcat]; show 2 * 0 + _ + _ ≤ _; omega) hlk
  have hold : H.size ≤ U.heap.size ∧ ∀ q : Nat, q < H.size → U.heap[q]? = H[q]? := by
    obtain ⟨-, q2, -, -, -, q6⟩ := hsame
    rw [hhp] at q2 q6
    refine ⟨q2, fun q hq => ?_⟩
    obtain ⟨c9, e1, e2, e3, e4⟩ := q6 q _ (Array.getElem?_eq_getElem hq)
    have hs9 : c9.slots = (H[q]).slots := Array.ext_getElem? fun i => e4 i (fun hm => nomatch hm)
    have hc9 : c9 = H[q] := by rw [hs9] at e2; exact e2
    have e5 : U.heap[q]? = some c9 := e1
    rw [e5, hc9, Array.getElem?_eq_getElem hq]
  have hWs : s.WarmedH U.vm := State.WarmedH.trans hW0 hW
  have hsm : s.sameButNew ({ U with vm := s.vm } : State) locs 1 6 := by
    obtain ⟨e1, e2⟩ := hsame
    rw [hs', State.setFrames_setFrames] at e1
    rw [hs'] at e2
    have h2 : (T.setVm s.vm).sameButNew ({ U with vm := s.vm } : State) [] (0 + 1) (0 + 6) := ⟨e1, e2⟩
    have h3 := X.same.trans h2
    rw [List.append_nil] at h3
    exact h3
  have hKI : KI (Gz z) ws U U.heap := by
    refine KI.moved hWs.alike ⟨hI.1, ?_, hI.2.2⟩
    exact hI.2.1.kept fun k q hk => hold.2 _ (hI.2.1 k q hk).lt
  have hSU : va_S (Gz z).2.2.1 s.heap U.heap locs := ⟨Nat.le_trans hS.1 hold.1, fun q h1 h2 => (hold.2 q (Nat.lt_of_lt_of_le h1 hS.1)).trans (hS.2.1 q h1 h2), hS.2.2⟩
  have hcl : s.vm.findClass cls = some ce.cls := by rw [← hvm]; exact hO.cls
  refine ⟨U, ?_, .threw T.heap.size, hrun, hend, hKI, hSU.F rfl, hWs, locs, hS.2.2, T.heap.size, ce, rfl, hce, hO.vm, hcl, hsm⟩
  refine st1 _ ?_
  show Steps p.tables e below (T1.setTop { method := m, pc := pc + 3, locals := ls, stack := .ref T.heap.size :: sk, locked := none }) _
  jvm_step X₁.here [X₁.here.top, hx, d3', Value.category]
  exact hsteps
end VK
end
section
/-! ===== methods: code, name, words ===== -/
theorem Y_PM_append : Yw y_PM_append b_PM_append 5 (some .int) 2 := ⟨gtm (w := .instanceMethod ⟨"PascalMachine", "append", "(JI)I"⟩) 243 (by decide +kernel) (by decide +kernel), gtm (w := .selects "PascalMachine" ⟨"PascalMachine", "append", "(JI)I"⟩ ⟨"PascalMachine", "append", "(JI)I"⟩) 244 (by decide +kernel) (by decide +kernel), kc_PM_append, gtm (w := .initialized "PascalMachine") 1 (by decide +kernel) (by decide +kernel), ⟨by decide +kernel, by decide +kernel⟩, by decide +kernel, by decide⟩
theorem Y_PM_cut : Yw y_PM_cut b_PM_cut 2 (some .int) 1 := ⟨gtm (w := .instanceMethod ⟨"PascalMachine", "cut", "(I)I"⟩) 336 (by decide +kernel) (by decide +kernel), gtm (w := .selects "PascalMachine" ⟨"PascalMachine", "cut", "(I)I"⟩ ⟨"PascalMachine", "cut", "(I)I"⟩) 337 (by decide +kernel) (by decide +kernel), kc_PM_cut, gtm (w := .initialized "PascalMachine") 1 (by decide +kernel) (by decide +kernel), ⟨by decide +kernel, by decide +kernel⟩, by decide +kernel, by decide⟩
theorem Y_PM_compile : Yw y_PM_compile b_PM_compile 3 (some .int) 0 := ⟨gtm (w := .instanceMethod ⟨"PascalMachine", "compile", "()I"⟩) 343 (by decide +kernel) (by decide +kernel), gtm (w := .selects "PascalMachine" ⟨"PascalMachine", "compile", "()I"⟩ ⟨"PascalMachine", "compile", "()I"⟩) 344 (by decide +kernel) (by decide +kernel), kc_PM_compile, gtm (w := .initialized "PascalMachine") 1 (by decide +kernel) (by decide +kernel), ⟨by decide +kernel, by decide +kernel⟩, by decide +kernel, by decide⟩
theorem Y_PM_fault : Yw y_PM_fault b_PM_fault 1 (some .int) 0 := ⟨gtm (w := .instanceMethod ⟨"PascalMachine", "fault", "()I"⟩) 234 (by decide +kernel) (by decide +kernel), gtm (w := .selects "PascalMachine" ⟨"PascalMachine", "fault", "()I"⟩ ⟨"PascalMachine", "fault", "()I"⟩) 235 (by decide +kernel) (by decide +kernel), kc_PM_fault, gtm (w := .initialized "PascalMachine") 1 (by decide +kernel) (by decide +kernel), ⟨by decide +kernel, by decide +kernel⟩, by decide +kernel, by decide⟩
theorem Y_PM_run : Yw y_PM_run b_PM_run 1 (some .int) 0 := ⟨gtm (w := .instanceMethod ⟨"PascalMachine", "run", "()I"⟩) 687 (by decide +kernel) (by decide +kernel), gtm (w := .selects "PascalMachine" ⟨"PascalMachine", "run", "()I"⟩ ⟨"PascalMachine", "run", "()I"⟩) 688 (by decide +kernel) (by decide +kernel), kc_PM_run, gtm (w := .initialized "PascalMachine") 1 (by decide +kernel) (by decide +kernel), ⟨by decide +kernel, by decide +kernel⟩, by decide +kernel, by decide⟩
theorem Y_PM_output : Yw y_PM_output b_PM_output 2 (some .int) 1 := ⟨gtm (w := .instanceMethod ⟨"PascalMachine", "output", "(I)I"⟩) 814 (by decide +kernel) (by decide +kernel), gtm (w := .selects "PascalMachine" ⟨"PascalMachine", "output", "(I)I"⟩ ⟨"PascalMachine", "output", "(I)I"⟩) 815 (by decide +kernel) (by decide +kernel), kc_PM_output, gtm (w := .initialized "PascalMachine") 1 (by decide +kernel) (by decide +kernel), ⟨by decide +kernel, by decide +kernel⟩, by decide +kernel, by decide⟩
theorem Y_PM_count : Yw y_PM_count b_PM_count 2 (some .int) 1 := ⟨gtm (w := .instanceMethod ⟨"PascalMachine", "count", "(I)I"⟩) 821 (by decide +kernel) (by decide +kernel), gtm (w := .selects "PascalMachine" ⟨"PascalMachine", "count", "(I)I"⟩ ⟨"PascalMachine", "count", "(I)I"⟩) 822 (by decide +kernel) (by decide +kernel), kc_PM_count, gtm (w := .initialized "PascalMachine") 1 (by decide +kernel) (by decide +kernel), ⟨by decide +kernel, by decide +kernel⟩, by decide +kernel, by decide⟩
theorem Y_PM_hasOnlyCodes : Ys y_PM_hasOnlyCodes b_PM_hasOnlyCodes 5 (some .boolean) 2 := ⟨gtm (w := .static ⟨"PascalMachine", "hasOnlyCodes", "(JI)Z"⟩) 247 (by decide +kernel) (by decide +kernel), kc_PM_hasOnlyCodes, gtm (w := .initialized "PascalMachine") 1 (by decide +kernel) (by decide +kernel), ⟨by decide +kernel, by decide +kernel⟩, by decide +kernel, by decide⟩
theorem Y_PM_byteAt : Ys y_PM_byteAt b_PM_byteAt 3 (some .int) 2 := ⟨gtm (w := .static ⟨"PascalMachine", "byteAt", "(JI)I"⟩) 250 (by decide +kernel) (by decide +kernel), kc_PM_byteAt, gtm (w := .initialized "PascalMachine") 1 (by decide +kernel) (by decide +kernel), ⟨by decide +kernel, by decide +kernel⟩, by decide +kernel, by decide⟩
theorem Y_Mo_thrown : Yw y_Mo_thrown b_Mo_thrown 1 (some .int) 0 := ⟨gtm (w := .instanceMethod ⟨"PascalMachineModel", "thrown", "()I"⟩) 1009 (by decide +kernel) (by decide +kernel), gtm (w := .selects "PascalMachineModel" ⟨"PascalMachineModel", "thrown", "()I"⟩ ⟨"PascalMachineModel", "thrown", "()I"⟩) 1010 (by decide +kernel) (by decide +kernel), kc_Mo_thrown, gtm (w := .initialized "PascalMachineModel") 7 (by decide +kernel) (by decide +kernel), ⟨by decide +kernel, by decide +kernel⟩, by decide +kernel, by decide⟩
theorem Y_Mo_raise : Yw y_Mo_raise b_Mo_raise 2 (some .int) 1 := ⟨gtm (w := .instanceMethod ⟨"PascalMachineModel", "raise", "(I)I"⟩) 1018 (by decide +kernel) (by decide +kernel), gts (q := (⟨"PascalMachineModel", "raise", "(I)I"⟩, 59)) 47 (by decide +kernel) (by decide +kernel), kc_Mo_raise, gtm (w := .initialized "PascalMachineModel") 7 (by decide +kernel) (by decide +kernel), ⟨by decide +kernel, by decide +kernel⟩, by decide +kernel, by decide⟩
theorem Y_Mo_append : Yw y_Mo_append b_Mo_append 6 (some .int) 2 := ⟨gtm (w := .instanceMethod ⟨"PascalMachineModel", "append", "(JI)I"⟩) 1013 (by decide +kernel) (by decide +kernel), gtm (w := .selects "PascalMachineModel" ⟨"PascalMachineModel", "append", "(JI)I"⟩ ⟨"PascalMachineModel", "append", "(JI)I"⟩) 1014 (by decide +kernel) (by decide +kernel), kc_Mo_append, gtm (w := .initialized "PascalMachineModel") 7 (by decide +kernel) (by decide +kernel), ⟨by decide +kernel, by decide +kernel⟩, by decide +kernel, by decide⟩
theorem Y_Mo_cut : Yw y_Mo_cut b_Mo_cut 2 (some .int) 1 := ⟨gtm (w := .instanceMethod ⟨"PascalMachineModel", "cut", "(I)I"⟩) 1021 (by decide +kernel) (by decide +kernel), gtm (w := .selects "PascalMachineModel" ⟨"PascalMachineModel", "cut", "(I)I"⟩ ⟨"PascalMachineModel", "cut", "(I)I"⟩) 1022 (by decide +kernel) (by decide +kernel), kc_Mo_cut, gtm (w := .initialized "PascalMachineModel") 7 (by decide +kernel) (by decide +kernel), ⟨by decide +kernel, by decide +kernel⟩, by decide +kernel, by decide⟩
theorem Y_Mo_letter : Ys y_Mo_letter b_Mo_letter 1 (some .boolean) 1 := ⟨gtm (w := .static ⟨"PascalMachineModel", "letter", "(I)Z"⟩) 1036 (by decide +kernel) (by decide +kernel), kc_Mo_letter, gtm (w := .initialized "PascalMachineModel") 7 (by decide +kernel) (by decide +kernel), ⟨by decide +kernel, by decide +kernel⟩, by decide +kernel, by decide⟩
theorem Y_Mo_digit : Ys y_Mo_digit b_Mo_digit 1 (some .boolean) 1 := ⟨gtm (w := .static ⟨"PascalMachineModel", "digit", "(I)Z"⟩) 1039 (by decide +kernel) (by decide +kernel), kc_Mo_digit, gtm (w := .initialized "PascalMachineModel") 7 (by decide +kernel) (by decide +kernel), ⟨by decide +kernel, by decide +kernel⟩, by decide +kernel, by decide⟩
theorem Y_Mo_wordKind : Ys y_Mo_wordKind b_Mo_wordKind 2 (some .int) 1 := ⟨gtm (w := .static ⟨"PascalMachineModel", "wordKind", "(J)I"⟩) 1048 (by decide +kernel) (by decide +kernel), kc_Mo_wordKind, gtm (w := .initialized "PascalMachineModel") 7 (by decide +kernel) (by decide +kernel), ⟨by decide +kernel, by decide +kernel⟩, by decide +kernel, by decide⟩
theorem Y_Mo_sign : Ys y_Mo_sign b_Mo_sign 1 (some .boolean) 1 := ⟨gtm (w := .static ⟨"PascalMachineModel", "sign", "(I)Z"⟩) 1033 (by decide +kernel) (by decide +kernel), kc_Mo_sign, gtm (w := .initialized "PascalMachineModel") 7 (by decide +kernel) (by decide +kernel), ⟨by decide +kernel, by decide +kernel⟩, by decide +kernel, by decide⟩
theorem Y_Mo_cutWord : Yw y_Mo_cutWord b_Mo_cutWord 7 none 1 := ⟨gtm (w := .instanceMethod ⟨"PascalMachineModel", "cutWord", "(I)V"⟩) 1043 (by decide +kernel) (by decide +kernel), gts (q := (⟨"PascalMachineModel", "cutWord", "(I)V"⟩, 59)) 49 (by decide +kernel) (by decide +kernel), kc_Mo_cutWord, gtm (w := .initialized "PascalMachineModel") 7 (by decide +kernel) (by decide +kernel), ⟨by decide +kernel, by decide +kernel⟩, by decide +kernel, by decide⟩
theorem Y_Mo_cutAll : Yw y_Mo_cutAll b_Mo_cutAll 4 none 0 := ⟨gtm (w := .instanceMethod ⟨"PascalMachineModel", "cutAll", "()V"⟩) 1030 (by decide +kernel) (by decide +kernel), gts (q := (⟨"PascalMachineModel", "cutAll", "()V"⟩, 59)) 48 (by decide +kernel) (by decide +kernel), kc_Mo_cutAll, gtm (w := .initialized "PascalMachineModel") 7 (by decide +kernel) (by decide +kernel), ⟨by decide +kernel, by decide +kernel⟩, by decide +kernel, by decide⟩
theorem Y_Mo_blame : Yw y_Mo_blame b_Mo_blame 2 none 1 := ⟨gtm (w := .instanceMethod ⟨"PascalMachineModel", "blame", "(I)V"⟩) 1082 (by decide +kernel) (by decide +kernel), gts (q := (⟨"PascalMachineModel", "blame", "(I)V"⟩, 59)) 55 (by decide +kernel) (by decide +kernel), kc_Mo_blame, gtm (w := .initialized "PascalMachineModel") 7 (by decide +kernel) (by decide +kernel), ⟨by decide +kernel, by decide +kernel⟩, by decide +kernel, by decide⟩
theorem Y_Mo_take : Yw y_Mo_take b_Mo_take 2 (some .boolean) 1 := ⟨gtm (w := .instanceMethod ⟨"PascalMachineModel", "take", "(I)Z"⟩) 1074 (by decide +kernel) (by decide +kernel), gts (q := (⟨"PascalMachineModel", "take", "(I)Z"⟩, 59)) 53 (by decide +kernel) (by decide +kernel), kc_Mo_take, gtm (w := .initialized "PascalMachineModel") 7 (by decide +kernel) (by decide +kernel), ⟨by decide +kernel, by decide +kernel⟩, by decide +kernel, by decide⟩
theorem Y_Mo_need : Yw y_Mo_need b_Mo_need 2 none 1 := ⟨gtm (w := .instanceMethod ⟨"PascalMachineModel", "need", "(I)V"⟩) 1086 (by decide +kernel) (by decide +kernel), gts (q := (⟨"PascalMachineModel", "need", "(I)V"⟩, 59)) 56 (by decide +kernel) (by decide +kernel), kc_Mo_need, gtm (w := .initialized "PascalMachineModel") 7 (by decide +kernel) (by decide +kernel), ⟨by decide +kernel, by decide +kernel⟩, by decide +kernel, by decide⟩
theorem Y_Mo_declare : Yw y_Mo_declare b_Mo_declare 3 none 1 := ⟨gtm (w := .instanceMethod ⟨"PascalMachineModel", "declare", "(I)V"⟩) 1078 (by decide +kernel) (by decide +kernel), gts (q := (⟨"PascalMachineModel", "declare", "(I)V"⟩, 59)) 54 (by decide +kernel) (by decide +kernel), kc_Mo_declare, gtm (w := .initialized "PascalMachineModel") 7 (by decide +kernel) (by decide +kernel), ⟨by decide +kernel, by decide +kernel⟩, by decide +kernel, by decide⟩
theorem Y_Mo_find : Yw y_Mo_find b_Mo_find 4 (some .int) 1 := ⟨gtm (w := .instanceMethod ⟨"PascalMachineModel", "find", "(I)I"⟩) 1110 (by decide +kernel) (by decide +kernel), gts (q := (⟨"PascalMachineModel", "find", "(I)I"⟩, 59)) 62 (by decide +kernel) (by decide +kernel), kc_Mo_find, gtm (w := .initialized "PascalMachineModel") 7 (by decide +kernel) (by decide +kernel), ⟨by decide +kernel, by decide +kernel⟩, by decide +kernel, by decide⟩
theorem Y_Mo_blockDepth : Yw y_Mo_blockDepth b_Mo_blockDepth 3 (some .int) 0 := ⟨gtm (w := .instanceMethod ⟨"PascalMachineModel", "blockDepth", "()I"⟩) 1094 (by decide +kernel) (by decide +kernel), gts (q := (⟨"PascalMachineModel", "blockDepth", "()I"⟩, 59)) 58 (by decide +kernel) (by decide +kernel), kc_Mo_blockDepth, gtm (w := .initialized "PascalMachineModel") 7 (by decide +kernel) (by decide +kernel), ⟨by decide +kernel, by decide +kernel⟩, by decide +kernel, by decide⟩
theorem Y_Mo_enter : Yw y_Mo_enter b_Mo_enter 2 none 1 := ⟨gtm (w := .instanceMethod ⟨"PascalMachineModel", "enter", "(I)V"⟩) 1066 (by decide +kernel) (by decide +kernel), gts (q := (⟨"PascalMachineModel", "enter", "(I)V"⟩, 59)) 51 (by decide +kernel) (by decide +kernel), kc_Mo_enter, gtm (w := .initialized "PascalMachineModel") 7 (by decide +kernel) (by decide +kernel), ⟨by decide +kernel, by decide +kernel⟩, by decide +kernel, by decide⟩
theorem Y_Mo_parameter : Yw y_Mo_parameter b_Mo_parameter 3 none 1 := ⟨gtm (w := .instanceMethod ⟨"PascalMachineModel", "parameter", "(I)V"⟩) 1098 (by decide +kernel) (by decide +kernel), gts (q := (⟨"PascalMachineModel", "parameter", "(I)V"⟩, 59)) 59 (by decide +kernel) (by decide +kernel), kc_Mo_parameter, gtm (w := .initialized "PascalMachineModel") 7 (by decide +kernel) (by decide +kernel), ⟨by decide +kernel, by decide +kernel⟩, by decide +kernel, by decide⟩
theorem Y_Mo_procedure : Yw y_Mo_procedure b_Mo_procedure 2 none 0 := ⟨gtm (w := .instanceMethod ⟨"PascalMachineModel", "procedure", "()V"⟩) 1090 (by decide +kernel) (by decide +kernel), gts (q := (⟨"PascalMachineModel", "procedure", "()V"⟩, 59)) 57 (by decide +kernel) (by decide +kernel), kc_Mo_procedure, gtm (w := .initialized "PascalMachineModel") 7 (by decide +kernel) (by decide +kernel), ⟨by decide +kernel, by decide +kernel⟩, by decide +kernel, by decide⟩
theorem Y_Mo_beginBlock : Yw y_Mo_beginBlock b_Mo_beginBlock 1 none 0 := ⟨gtm (w := .instanceMethod ⟨"PascalMachineModel", "beginBlock", "()V"⟩) 1070 (by decide +kernel) (by decide +kernel), gts (q := (⟨"PascalMachineModel", "beginBlock", "()V"⟩, 59)) 52 (by decide +kernel) (by decide +kernel), kc_Mo_beginBlock, gtm (w := .initialized "PascalMachineModel") 7 (by decide +kernel) (by decide +kernel), ⟨by decide +kernel, by decide +kernel⟩, by decide +kernel, by decide⟩
theorem Y_Mo_factor : Yw y_Mo_factor b_Mo_factor 2 none 0 := ⟨gtm (w := .instanceMethod ⟨"PascalMachineModel", "factor", "()V"⟩) 1118 (by decide +kernel) (by decide +kernel), gts (q := (⟨"PascalMachineModel", "factor", "()V"⟩, 59)) 64 (by decide +kernel) (by decide +kernel), kc_Mo_factor, gtm (w := .initialized "PascalMachineModel") 7 (by decide +kernel) (by decide +kernel), ⟨by decide +kernel, by decide +kernel⟩, by decide +kernel, by decide⟩
theorem Y_Mo_operator : Yw y_Mo_operator b_Mo_operator 2 (some .boolean) 1 := ⟨gtm (w := .instanceMethod ⟨"PascalMachineModel", "operator", "(I)Z"⟩) 1122 (by decide +kernel) (by decide +kernel), gts (q := (⟨"PascalMachineModel", "operator", "(I)Z"⟩, 59)) 65 (by decide +kernel) (by decide +kernel), kc_Mo_operator, gtm (w := .initialized "PascalMachineModel") 7 (by decide +kernel) (by decide +kernel), ⟨by decide +kernel, by decide +kernel⟩, by decide +kernel, by decide⟩
theorem Y_Mo_expression : Yw y_Mo_expression b_Mo_expression 3 none 0 := ⟨gtm (w := .instanceMethod ⟨"PascalMachineModel", "expression", "()V"⟩) 1114 (by decide +kernel) (by decide +kernel), gts (q := (⟨"PascalMachineModel", "expression", "()V"⟩, 59)) 63 (by decide +kernel) (by decide +kernel), kc_Mo_expression, gtm (w := .initialized "PascalMachineModel") 7 (by decide +kernel) (by decide +kernel), ⟨by decide +kernel, by decide +kernel⟩, by decide +kernel, by decide⟩
theorem Y_Mo_condition : Yw y_Mo_condition b_Mo_condition 1 none 0 := ⟨gtm (w := .instanceMethod ⟨"PascalMachineModel", "condition", "()V"⟩) 1142 (by decide +kernel) (by decide +kernel), gts (q := (⟨"PascalMachineModel", "condition", "()V"⟩, 59)) 70 (by decide +kernel) (by decide +kernel), kc_Mo_condition, gtm (w := .initialized "PascalMachineModel") 7 (by decide +kernel) (by decide +kernel), ⟨by decide +kernel, by decide +kernel⟩, by decide +kernel, by decide⟩
theorem Y_Mo_argument : Yw y_Mo_argument b_Mo_argument 5 none 2 := ⟨gtm (w := .instanceMethod ⟨"PascalMachineModel", "argument", "(II)V"⟩) 1130 (by decide +kernel) (by decide +kernel), gts (q := (⟨"PascalMachineModel", "argument", "(II)V"⟩, 59)) 67 (by decide +kernel) (by decide +kernel), kc_Mo_argument, gtm (w := .initialized "PascalMachineModel") 7 (by decide +kernel) (by decide +kernel), ⟨by decide +kernel, by decide +kernel⟩, by decide +kernel, by decide⟩
theorem Y_Mo_parameterOf : Yw y_Mo_parameterOf b_Mo_parameterOf 3 (some .int) 2 := ⟨gtm (w := .instanceMethod ⟨"PascalMachineModel", "parameterOf", "(II)I"⟩) 1134 (by decide +kernel) (by decide +kernel), gts (q := (⟨"PascalMachineModel", "parameterOf", "(II)I"⟩, 59)) 68 (by decide +kernel) (by decide +kernel), kc_Mo_parameterOf, gtm (w := .initialized "PascalMachineModel") 7 (by decide +kernel) (by decide +kernel), ⟨by decide +kernel, by decide +kernel⟩, by decide +kernel, by decide⟩
theorem Y_Mo_call : Yw y_Mo_call b_Mo_call 4 none 2 := ⟨gtm (w := .instanceMethod ⟨"PascalMachineModel", "call", "(II)V"⟩) 1126 (by decide +kernel) (by decide +kernel), gts (q := (⟨"PascalMachineModel", "call", "(II)V"⟩, 59)) 66 (by decide +kernel) (by decide +kernel), kc_Mo_call, gtm (w := .initialized "PascalMachineModel") 7 (by decide +kernel) (by decide +kernel), ⟨by decide +kernel, by decide +kernel⟩, by decide +kernel, by decide⟩
theorem Y_Mo_deeper : Yw y_Mo_deeper b_Mo_deeper 3 none 2 := ⟨gtm (w := .instanceMethod ⟨"PascalMachineModel", "deeper", "(II)V"⟩) 1138 (by decide +kernel) (by decide +kernel), gts (q := (⟨"PascalMachineModel", "deeper", "(II)V"⟩, 59)) 69 (by decide +kernel) (by decide +kernel), kc_Mo_deeper, gtm (w := .initialized "PascalMachineModel") 7 (by decide +kernel) (by decide +kernel), ⟨by decide +kernel, by decide +kernel⟩, by decide +kernel, by decide⟩
theorem Y_Mo_beginStatement : Yw y_Mo_beginStatement b_Mo_beginStatement 4 (some .boolean) 0 := ⟨gtm (w := .instanceMethod ⟨"PascalMachineModel", "beginStatement", "()Z"⟩) 1106 (by decide +kernel) (by decide +kernel), gts (q := (⟨"PascalMachineModel", "beginStatement", "()Z"⟩, 59)) 61 (by decide +kernel) (by decide +kernel), kc_Mo_beginStatement, gtm (w := .initialized "PascalMachineModel") 7 (by decide +kernel) (by decide +kernel), ⟨by decide +kernel, by decide +kernel⟩, by decide +kernel, by decide⟩
theorem Y_Mo_behindStatement : Yw y_Mo_behindStatement b_Mo_behindStatement 3 (some .boolean) 0 := ⟨gtm (w := .instanceMethod ⟨"PascalMachineModel", "behindStatement", "()Z"⟩) 1146 (by decide +kernel) (by decide +kernel), gts (q := (⟨"PascalMachineModel", "behindStatement", "()Z"⟩, 59)) 71 (by decide +kernel) (by decide +kernel), kc_Mo_behindStatement, gtm (w := .initialized "PascalMachineModel") 7 (by decide +kernel) (by decide +kernel), ⟨by decide +kernel, by decide +kernel⟩, by decide +kernel, by decide⟩
theorem Y_Mo_statements : Yw y_Mo_statements b_Mo_statements 2 none 0 := ⟨gtm (w := .instanceMethod ⟨"PascalMachineModel", "statements", "()V"⟩) 1102 (by decide +kernel) (by decide +kernel), gts (q := (⟨"PascalMachineModel", "statements", "()V"⟩, 59)) 60 (by decide +kernel) (by decide +kernel), kc_Mo_statements, gtm (w := .initialized "PascalMachineModel") 7 (by decide +kernel) (by decide +kernel), ⟨by decide +kernel, by decide +kernel⟩, by decide +kernel, by decide⟩
theorem Y_Mo_readProgram : Yw y_Mo_readProgram b_Mo_readProgram 2 none 0 := ⟨gtm (w := .instanceMethod ⟨"PascalMachineModel", "readProgram", "()V"⟩) 1062 (by decide +kernel) (by decide +kernel), gts (q := (⟨"PascalMachineModel", "readProgram", "()V"⟩, 59)) 50 (by decide +kernel) (by decide +kernel), kc_Mo_readProgram, gtm (w := .initialized "PascalMachineModel") 7 (by decide +kernel) (by decide +kernel), ⟨by decide +kernel, by decide +kernel⟩, by decide +kernel, by decide⟩
theorem Y_Mo_compile : Yw y_Mo_compile b_Mo_compile 2 (some .int) 0 := ⟨gtm (w := .instanceMethod ⟨"PascalMachineModel", "compile", "()I"⟩) 1025 (by decide +kernel) (by decide +kernel), gtm (w := .selects "PascalMachineModel" ⟨"PascalMachineModel", "compile", "()I"⟩ ⟨"PascalMachineModel", "compile", "()I"⟩) 1026 (by decide +kernel) (by decide +kernel), kc_Mo_compile, gtm (w := .initialized "PascalMachineModel") 7 (by decide +kernel) (by decide +kernel), ⟨by decide +kernel, by decide +kernel⟩, by decide +kernel, by decide⟩
theorem Y_Mo_fault : Yw y_Mo_fault b_Mo_fault 1 (some .int) 0 := ⟨gtm (w := .instanceMethod ⟨"PascalMachineModel", "fault", "()I"⟩) 1149 (by decide +kernel) (by decide +kernel), gtm (w := .selects "PascalMachineModel" ⟨"PascalMachineModel", "fault", "()I"⟩ ⟨"PascalMachineModel", "fault", "()I"⟩) 1150 (by decide +kernel) (by decide +kernel), kc_Mo_fault, gtm (w := .initialized "PascalMachineModel") 7 (by decide +kernel) (by decide +kernel), ⟨by decide +kernel, by decide +kernel⟩, by decide +kernel, by decide⟩
theorem Y_Mo_runOf : Yw y_Mo_runOf b_Mo_runOf 3 (some .int) 1 := ⟨gtm (w := .instanceMethod ⟨"PascalMachineModel", "runOf", "(I)I"⟩) 1174 (by decide +kernel) (by decide +kernel), gts (q := (⟨"PascalMachineModel", "runOf", "(I)I"⟩, 59)) 76 (by decide +kernel) (by decide +kernel), kc_Mo_runOf, gtm (w := .initialized "PascalMachineModel") 7 (by decide +kernel) (by decide +kernel), ⟨by decide +kernel, by decide +kernel⟩, by decide +kernel, by decide⟩
theorem Y_Mo_place : Yw y_Mo_place b_Mo_place 3 (some .int) 1 := ⟨gtm (w := .instanceMethod ⟨"PascalMachineModel", "place", "(I)I"⟩) 1170 (by decide +kernel) (by decide +kernel), gts (q := (⟨"PascalMachineModel", "place", "(I)I"⟩, 59)) 75 (by decide +kernel) (by decide +kernel), kc_Mo_place, gtm (w := .initialized "PascalMachineModel") 7 (by decide +kernel) (by decide +kernel), ⟨by decide +kernel, by decide +kernel⟩, by decide +kernel, by decide⟩
theorem Y_Mo_slot : Yw y_Mo_slot b_Mo_slot 4 (some .int) 1 := ⟨gtm (w := .instanceMethod ⟨"PascalMachineModel", "slot", "(I)I"⟩) 1178 (by decide +kernel) (by decide +kernel), gts (q := (⟨"PascalMachineModel", "slot", "(I)I"⟩, 59)) 77 (by decide +kernel) (by decide +kernel), kc_Mo_slot, gtm (w := .initialized "PascalMachineModel") 7 (by decide +kernel) (by decide +kernel), ⟨by decide +kernel, by decide +kernel⟩, by decide +kernel, by decide⟩
theorem Y_Mo_multiply : Yw y_Mo_multiply b_Mo_multiply 3 none 2 := ⟨gtm (w := .instanceMethod ⟨"PascalMachineModel", "multiply", "(II)V"⟩) 1190 (by decide +kernel) (by decide +kernel), gts (q := (⟨"PascalMachineModel", "multiply", "(II)V"⟩, 59)) 80 (by decide +kernel) (by decide +kernel), kc_Mo_multiply, gtm (w := .initialized "PascalMachineModel") 7 (by decide +kernel) (by decide +kernel), ⟨by decide +kernel, by decide +kernel⟩, by decide +kernel, by decide⟩
theorem Y_Mo_add : Yw y_Mo_add b_Mo_add 2 none 1 := ⟨gtm (w := .instanceMethod ⟨"PascalMachineModel", "add", "(I)V"⟩) 1194 (by decide +kernel) (by decide +kernel), gts (q := (⟨"PascalMachineModel", "add", "(I)V"⟩, 59)) 81 (by decide +kernel) (by decide +kernel), kc_Mo_add, gtm (w := .initialized "PascalMachineModel") 7 (by decide +kernel) (by decide +kernel), ⟨by decide +kernel, by decide +kernel⟩, by decide +kernel, by decide⟩
theorem Y_Mo_openSum : Yw y_Mo_openSum b_Mo_openSum 2 none 1 := ⟨gtm (w := .instanceMethod ⟨"PascalMachineModel", "openSum", "(I)V"⟩) 1186 (by decide +kernel) (by decide +kernel), gts (q := (⟨"PascalMachineModel", "openSum", "(I)V"⟩, 59)) 79 (by decide +kernel) (by decide +kernel), kc_Mo_openSum, gtm (w := .initialized "PascalMachineModel") 7 (by decide +kernel) (by decide +kernel), ⟨by decide +kernel, by decide +kernel⟩, by decide +kernel, by decide⟩
theorem Y_Mo_evaluate : Yw y_Mo_evaluate b_Mo_evaluate 4 (some .int) 0 := ⟨gtm (w := .instanceMethod ⟨"PascalMachineModel", "evaluate", "()I"⟩) 1182 (by decide +kernel) (by decide +kernel), gts (q := (⟨"PascalMachineModel", "evaluate", "()I"⟩, 59)) 78 (by decide +kernel) (by decide +kernel), kc_Mo_evaluate, gtm (w := .initialized "PascalMachineModel") 7 (by decide +kernel) (by decide +kernel), ⟨by decide +kernel, by decide +kernel⟩, by decide +kernel, by decide⟩
theorem Y_Mo_step : Yw y_Mo_step b_Mo_step 1 none 0 := ⟨gtm (w := .instanceMethod ⟨"PascalMachineModel", "step", "()V"⟩) 1162 (by decide +kernel) (by decide +kernel), gts (q := (⟨"PascalMachineModel", "step", "()V"⟩, 59)) 73 (by decide +kernel) (by decide +kernel), kc_Mo_step, gtm (w := .initialized "PascalMachineModel") 7 (by decide +kernel) (by decide +kernel), ⟨by decide +kernel, by decide +kernel⟩, by decide +kernel, by decide⟩
theorem Y_Mo_push : Yw y_Mo_push b_Mo_push 3 none 2 := ⟨gtm (w := .instanceMethod ⟨"PascalMachineModel", "push", "(II)V"⟩) 1206 (by decide +kernel) (by decide +kernel), gts (q := (⟨"PascalMachineModel", "push", "(II)V"⟩, 59)) 84 (by decide +kernel) (by decide +kernel), kc_Mo_push, gtm (w := .initialized "PascalMachineModel") 7 (by decide +kernel) (by decide +kernel), ⟨by decide +kernel, by decide +kernel⟩, by decide +kernel, by decide⟩
theorem Y_Mo_holds : Yw y_Mo_holds b_Mo_holds 4 (some .boolean) 0 := ⟨gtm (w := .instanceMethod ⟨"PascalMachineModel", "holds", "()Z"⟩) 1214 (by decide +kernel) (by decide +kernel), gts (q := (⟨"PascalMachineModel", "holds", "()Z"⟩, 59)) 86 (by decide +kernel) (by decide +kernel), kc_Mo_holds, gtm (w := .initialized "PascalMachineModel") 7 (by decide +kernel) (by decide +kernel), ⟨by decide +kernel, by decide +kernel⟩, by decide +kernel, by decide⟩
theorem Y_Mo_enterCall : Yw y_Mo_enterCall b_Mo_enterCall 6 none 1 := ⟨gtm (w := .instanceMethod ⟨"PascalMachineModel", "enterCall", "(I)V"⟩) 1166 (by decide +kernel) (by decide +kernel), gts (q := (⟨"PascalMachineModel", "enterCall", "(I)V"⟩, 59)) 74 (by decide +kernel) (by decide +kernel), kc_Mo_enterCall, gtm (w := .initialized "PascalMachineModel") 7 (by decide +kernel) (by decide +kernel), ⟨by decide +kernel, by decide +kernel⟩, by decide +kernel, by decide⟩
theorem Y_Mo_write : Yw y_Mo_write b_Mo_write 2 none 1 := ⟨gtm (w := .instanceMethod ⟨"PascalMachineModel", "write", "(I)V"⟩) 1202 (by decide +kernel) (by decide +kernel), gts (q := (⟨"PascalMachineModel", "write", "(I)V"⟩, 59)) 83 (by decide +kernel) (by decide +kernel), kc_Mo_write, gtm (w := .initialized "PascalMachineModel") 7 (by decide +kernel) (by decide +kernel), ⟨by decide +kernel, by decide +kernel⟩, by decide +kernel, by decide⟩
theorem Y_Mo_test : Yw y_Mo_test b_Mo_test 3 none 1 := ⟨gtm (w := .instanceMethod ⟨"PascalMachineModel", "test", "(I)V"⟩) 1210 (by decide +kernel) (by decide +kernel), gts (q := (⟨"PascalMachineModel", "test", "(I)V"⟩, 59)) 85 (by decide +kernel) (by decide +kernel), kc_Mo_test, gtm (w := .initialized "PascalMachineModel") 7 (by decide +kernel) (by decide +kernel), ⟨by decide +kernel, by decide +kernel⟩, by decide +kernel, by decide⟩
theorem Y_Mo_over : Yw y_Mo_over b_Mo_over 5 none 0 := ⟨gtm (w := .instanceMethod ⟨"PascalMachineModel", "over", "()V"⟩) 1198 (by decide +kernel) (by decide +kernel), gts (q := (⟨"PascalMachineModel", "over", "()V"⟩, 59)) 82 (by decide +kernel) (by decide +kernel), kc_Mo_over, gtm (w := .initialized "PascalMachineModel") 7 (by decide +kernel) (by decide +kernel), ⟨by decide +kernel, by decide +kernel⟩, by decide +kernel, by decide⟩
theorem Y_Mo_statement : Yw y_Mo_statement b_Mo_statement 4 none 0 := ⟨gtm (w := .instanceMethod ⟨"PascalMachineModel", "statement", "()V"⟩) 1158 (by decide +kernel) (by decide +kernel), gts (q := (⟨"PascalMachineModel", "statement", "()V"⟩, 59)) 72 (by decide +kernel) (by decide +kernel), kc_Mo_statement, gtm (w := .initialized "PascalMachineModel") 7 (by decide +kernel) (by decide +kernel), ⟨by decide +kernel, by decide +kernel⟩, by decide +kernel, by decide⟩
theorem Y_Mo_run : Yw y_Mo_run b_Mo_run 2 (some .int) 0 := ⟨gtm (w := .instanceMethod ⟨"PascalMachineModel", "run", "()I"⟩) 1153 (by decide +kernel) (by decide +kernel), gtm (w := .selects "PascalMachineModel" ⟨"PascalMachineModel", "run", "()I"⟩ ⟨"PascalMachineModel", "run", "()I"⟩) 1154 (by decide +kernel) (by decide +kernel), kc_Mo_run, gtm (w := .initialized "PascalMachineModel") 7 (by decide +kernel) (by decide +kernel), ⟨by decide +kernel, by decide +kernel⟩, by decide +kernel, by decide⟩
theorem Y_Mo_output : Yw y_Mo_output b_Mo_output 2 (some .int) 1 := ⟨gtm (w := .instanceMethod ⟨"PascalMachineModel", "output", "(I)I"⟩) 1217 (by decide +kernel) (by decide +kernel), gtm (w := .selects "PascalMachineModel" ⟨"PascalMachineModel", "output", "(I)I"⟩ ⟨"PascalMachineModel", "output", "(I)I"⟩) 1218 (by decide +kernel) (by decide +kernel), kc_Mo_output, gtm (w := .initialized "PascalMachineModel") 7 (by decide +kernel) (by decide +kernel), ⟨by decide +kernel, by decide +kernel⟩, by decide +kernel, by decide⟩
theorem Y_Mo_count : Yw y_Mo_count b_Mo_count 2 (some .int) 1 := ⟨gtm (w := .instanceMethod ⟨"PascalMachineModel", "count", "(I)I"⟩) 1221 (by decide +kernel) (by decide +kernel), gtm (w := .selects "PascalMachineModel" ⟨"PascalMachineModel", "count", "(I)I"⟩ ⟨"PascalMachineModel", "count", "(I)I"⟩) 1222 (by decide +kernel) (by decide +kernel), kc_Mo_count, gtm (w := .initialized "PascalMachineModel") 7 (by decide +kernel) (by decide +kernel), ⟨by decide +kernel, by decide +kernel⟩, by decide +kernel, by decide⟩
theorem Y_Co_add : Yw y_Co_add b_Co_add 5 (some .int) 3 := ⟨gtm (w := .instanceMethod ⟨"PascalMachine$Code", "add", "(III)I"⟩) 582 (by decide +kernel) (by decide +kernel), gtm (w := .selects "PascalMachine$Code" ⟨"PascalMachine$Code", "add", "(III)I"⟩ ⟨"PascalMachine$Code", "add", "(III)I"⟩) 583 (by decide +kernel) (by decide +kernel), kc_Co_add, gtm (w := .initialized "PascalMachine$Code") 5 (by decide +kernel) (by decide +kernel), ⟨by decide +kernel, by decide +kernel⟩, by decide +kernel, by decide⟩
theorem Y_Co_isReference : Yw y_Co_isReference b_Co_isReference 3 (some .boolean) 2 := ⟨gtm (w := .instanceMethod ⟨"PascalMachine$Code", "isReference", "(II)Z"⟩) 630 (by decide +kernel) (by decide +kernel), gtm (w := .selects "PascalMachine$Code" ⟨"PascalMachine$Code", "isReference", "(II)Z"⟩ ⟨"PascalMachine$Code", "isReference", "(II)Z"⟩) 631 (by decide +kernel) (by decide +kernel), kc_Co_isReference, gtm (w := .initialized "PascalMachine$Code") 5 (by decide +kernel) (by decide +kernel), ⟨by decide +kernel, by decide +kernel⟩, by decide +kernel, by decide⟩
theorem Y_Co_jumpToEnd : Yw y_Co_jumpToEnd b_Co_jumpToEnd 2 none 1 := ⟨gtm (w := .instanceMethod ⟨"PascalMachine$Code", "jumpToEnd", "(I)V"⟩) 658 (by decide +kernel) (by decide +kernel), gtm (w := .selects "PascalMachine$Code" ⟨"PascalMachine$Code", "jumpToEnd", "(I)V"⟩ ⟨"PascalMachine$Code", "jumpToEnd", "(I)V"⟩) 659 (by decide +kernel) (by decide +kernel), kc_Co_jumpToEnd, gtm (w := .initialized "PascalMachine$Code") 5 (by decide +kernel) (by decide +kernel), ⟨by decide +kernel, by decide +kernel⟩, by decide +kernel, by decide⟩
theorem Y_Co_takeAddress : Yw y_Co_takeAddress b_Co_takeAddress 2 none 1 := ⟨gtm (w := .instanceMethod ⟨"PascalMachine$Code", "takeAddress", "(I)V"⟩) 634 (by decide +kernel) (by decide +kernel), gtm (w := .selects "PascalMachine$Code" ⟨"PascalMachine$Code", "takeAddress", "(I)V"⟩ ⟨"PascalMachine$Code", "takeAddress", "(I)V"⟩) 635 (by decide +kernel) (by decide +kernel), kc_Co_takeAddress, gtm (w := .initialized "PascalMachine$Code") 5 (by decide +kernel) (by decide +kernel), ⟨by decide +kernel, by decide +kernel⟩, by decide +kernel, by decide⟩
theorem Y_Cp_translate : Yw y_Cp_translate b_Cp_translate 3 (some .int) 2 := ⟨gtm (w := .instanceMethod ⟨"PascalMachine$Compiler", "translate", "([CI)I"⟩) 347 (by decide +kernel) (by decide +kernel), gtm (w := .selects "PascalMachine$Compiler" ⟨"PascalMachine$Compiler", "translate", "([CI)I"⟩ ⟨"PascalMachine$Compiler", "translate", "([CI)I"⟩) 348 (by decide +kernel) (by decide +kernel), kc_Cp_translate, gtm (w := .initialized "PascalMachine$Compiler") 2 (by decide +kernel) (by decide +kernel), ⟨by decide +kernel, by decide +kernel⟩, by decide +kernel, by decide⟩
theorem Y_Cp_refuse : Yw y_Cp_refuse b_Cp_refuse 2 none 1 := ⟨gtm (w := .instanceMethod ⟨"PascalMachine$Compiler", "refuse", "(I)V"⟩) 503 (by decide +kernel) (by decide +kernel), gts (q := (⟨"PascalMachine$Compiler", "refuse", "(I)V"⟩, 4)) 12 (by decide +kernel) (by decide +kernel), kc_Cp_refuse, gtm (w := .initialized "PascalMachine$Compiler") 2 (by decide +kernel) (by decide +kernel), ⟨by decide +kernel, by decide +kernel⟩, by decide +kernel, by decide⟩
theorem Y_Cp_expect : Yw y_Cp_expect b_Cp_expect 2 none 1 := ⟨gtm (w := .instanceMethod ⟨"PascalMachine$Compiler", "expect", "(LPascalMachine$Kind;)V"⟩) 514 (by decide +kernel) (by decide +kernel), gts (q := (⟨"PascalMachine$Compiler", "expect", "(LPascalMachine$Kind;)V"⟩, 4)) 13 (by decide +kernel) (by decide +kernel), kc_Cp_expect, gtm (w := .initialized "PascalMachine$Compiler") 2 (by decide +kernel) (by decide +kernel), ⟨by decide +kernel, by decide +kernel⟩, by decide +kernel, by decide⟩
theorem Y_Cp_declareName : Yw y_Cp_declareName b_Cp_declareName 2 none 1 := ⟨gtm (w := .instanceMethod ⟨"PascalMachine$Compiler", "declareName", "(I)V"⟩) 474 (by decide +kernel) (by decide +kernel), gts (q := (⟨"PascalMachine$Compiler", "declareName", "(I)V"⟩, 4)) 10 (by decide +kernel) (by decide +kernel), kc_Cp_declareName, gtm (w := .initialized "PascalMachine$Compiler") 2 (by decide +kernel) (by decide +kernel), ⟨by decide +kernel, by decide +kernel⟩, by decide +kernel, by decide⟩
theorem Y_Cp_block : Yw y_Cp_block b_Cp_block 3 (some .int) 1 := ⟨gtm (w := .instanceMethod ⟨"PascalMachine$Compiler", "block", "(I)I"⟩) 456 (by decide +kernel) (by decide +kernel), gts (q := (⟨"PascalMachine$Compiler", "block", "(I)I"⟩, 4)) 8 (by decide +kernel) (by decide +kernel), kc_Cp_block, gtm (w := .initialized "PascalMachine$Compiler") 2 (by decide +kernel) (by decide +kernel), ⟨by decide +kernel, by decide +kernel⟩, by decide +kernel, by decide⟩
theorem Y_Cp_variables : Yw y_Cp_variables b_Cp_variables 2 none 0 := ⟨gtm (w := .instanceMethod ⟨"PascalMachine$Compiler", "variables", "()V"⟩) 470 (by decide +kernel) (by decide +kernel), gts (q := (⟨"PascalMachine$Compiler", "variables", "()V"⟩, 4)) 9 (by decide +kernel) (by decide +kernel), kc_Cp_variables, gtm (w := .initialized "PascalMachine$Compiler") 2 (by decide +kernel) (by decide +kernel), ⟨by decide +kernel, by decide +kernel⟩, by decide +kernel, by decide⟩
theorem Y_Cp_procedure : Yw y_Cp_procedure b_Cp_procedure 3 none 1 := ⟨gtm (w := .instanceMethod ⟨"PascalMachine$Compiler", "procedure", "(I)V"⟩) 520 (by decide +kernel) (by decide +kernel), gts (q := (⟨"PascalMachine$Compiler", "procedure", "(I)V"⟩, 4)) 14 (by decide +kernel) (by decide +kernel), kc_Cp_procedure, gtm (w := .initialized "PascalMachine$Compiler") 2 (by decide +kernel) (by decide +kernel), ⟨by decide +kernel, by decide +kernel⟩, by decide +kernel, by decide⟩
theorem Y_Cp_parameters : Yw y_Cp_parameters b_Cp_parameters 3 none 1 := ⟨gtm (w := .instanceMethod ⟨"PascalMachine$Compiler", "parameters", "(I)V"⟩) 534 (by decide +kernel) (by decide +kernel), gts (q := (⟨"PascalMachine$Compiler", "parameters", "(I)V"⟩, 4)) 15 (by decide +kernel) (by decide +kernel), kc_Cp_parameters, gtm (w := .initialized "PascalMachine$Compiler") 2 (by decide +kernel) (by decide +kernel), ⟨by decide +kernel, by decide +kernel⟩, by decide +kernel, by decide⟩
theorem Y_Cp_parameter : Yw y_Cp_parameter b_Cp_parameter 4 none 1 := ⟨gtm (w := .instanceMethod ⟨"PascalMachine$Compiler", "parameter", "(I)V"⟩) 538 (by decide +kernel) (by decide +kernel), gts (q := (⟨"PascalMachine$Compiler", "parameter", "(I)V"⟩, 4)) 16 (by decide +kernel) (by decide +kernel), kc_Cp_parameter, gtm (w := .initialized "PascalMachine$Compiler") 2 (by decide +kernel) (by decide +kernel), ⟨by decide +kernel, by decide +kernel⟩, by decide +kernel, by decide⟩
theorem Y_Cp_statements : Yw y_Cp_statements b_Cp_statements 3 none 1 := ⟨gtm (w := .instanceMethod ⟨"PascalMachine$Compiler", "statements", "(I)V"⟩) 552 (by decide +kernel) (by decide +kernel), gts (q := (⟨"PascalMachine$Compiler", "statements", "(I)V"⟩, 4)) 17 (by decide +kernel) (by decide +kernel), kc_Cp_statements, gtm (w := .initialized "PascalMachine$Compiler") 2 (by decide +kernel) (by decide +kernel), ⟨by decide +kernel, by decide +kernel⟩, by decide +kernel, by decide⟩
theorem Y_Cp_statement : Yw y_Cp_statement b_Cp_statement 2 none 1 := ⟨gtm (w := .instanceMethod ⟨"PascalMachine$Compiler", "statement", "(I)V"⟩) 556 (by decide +kernel) (by decide +kernel), gts (q := (⟨"PascalMachine$Compiler", "statement", "(I)V"⟩, 4)) 18 (by decide +kernel) (by decide +kernel), kc_Cp_statement, gtm (w := .initialized "PascalMachine$Compiler") 2 (by decide +kernel) (by decide +kernel), ⟨by decide +kernel, by decide +kernel⟩, by decide +kernel, by decide⟩
theorem Y_Cp_goDeeper : Yw y_Cp_goDeeper b_Cp_goDeeper 2 none 1 := ⟨gtm (w := .instanceMethod ⟨"PascalMachine$Compiler", "goDeeper", "(I)V"⟩) 639 (by decide +kernel) (by decide +kernel), gts (q := (⟨"PascalMachine$Compiler", "goDeeper", "(I)V"⟩, 4)) 27 (by decide +kernel) (by decide +kernel), kc_Cp_goDeeper, gtm (w := .initialized "PascalMachine$Compiler") 2 (by decide +kernel) (by decide +kernel), ⟨by decide +kernel, by decide +kernel⟩, by decide +kernel, by decide⟩
theorem Y_Cp_assignment : Yw y_Cp_assignment b_Cp_assignment 3 none 0 := ⟨gtm (w := .instanceMethod ⟨"PascalMachine$Compiler", "assignment", "()V"⟩) 574 (by decide +kernel) (by decide +kernel), gts (q := (⟨"PascalMachine$Compiler", "assignment", "()V"⟩, 4)) 19 (by decide +kernel) (by decide +kernel), kc_Cp_assignment, gtm (w := .initialized "PascalMachine$Compiler") 2 (by decide +kernel) (by decide +kernel), ⟨by decide +kernel, by decide +kernel⟩, by decide +kernel, by decide⟩
theorem Y_Cp_procedureCall : Yw y_Cp_procedureCall b_Cp_procedureCall 4 none 0 := ⟨gtm (w := .instanceMethod ⟨"PascalMachine$Compiler", "procedureCall", "()V"⟩) 623 (by decide +kernel) (by decide +kernel), gts (q := (⟨"PascalMachine$Compiler", "procedureCall", "()V"⟩, 4)) 25 (by decide +kernel) (by decide +kernel), kc_Cp_procedureCall, gtm (w := .initialized "PascalMachine$Compiler") 2 (by decide +kernel) (by decide +kernel), ⟨by decide +kernel, by decide +kernel⟩, by decide +kernel, by decide⟩
theorem Y_Cp_arguments : Yw y_Cp_arguments b_Cp_arguments 7 (some .int) 1 := ⟨gtm (w := .instanceMethod ⟨"PascalMachine$Compiler", "arguments", "(I)I"⟩) 627 (by decide +kernel) (by decide +kernel), gts (q := (⟨"PascalMachine$Compiler", "arguments", "(I)I"⟩, 4)) 26 (by decide +kernel) (by decide +kernel), kc_Cp_arguments, gtm (w := .initialized "PascalMachine$Compiler") 2 (by decide +kernel) (by decide +kernel), ⟨by decide +kernel, by decide +kernel⟩, by decide +kernel, by decide⟩
theorem Y_Cp_ifStatement : Yw y_Cp_ifStatement b_Cp_ifStatement 4 none 1 := ⟨gtm (w := .instanceMethod ⟨"PascalMachine$Compiler", "ifStatement", "(I)V"⟩) 643 (by decide +kernel) (by decide +kernel), gts (q := (⟨"PascalMachine$Compiler", "ifStatement", "(I)V"⟩, 4)) 28 (by decide +kernel) (by decide +kernel), kc_Cp_ifStatement, gtm (w := .initialized "PascalMachine$Compiler") 2 (by decide +kernel) (by decide +kernel), ⟨by decide +kernel, by decide +kernel⟩, by decide +kernel, by decide⟩
theorem Y_Cp_whileStatement : Yw y_Cp_whileStatement b_Cp_whileStatement 4 none 1 := ⟨gtm (w := .instanceMethod ⟨"PascalMachine$Compiler", "whileStatement", "(I)V"⟩) 663 (by decide +kernel) (by decide +kernel), gts (q := (⟨"PascalMachine$Compiler", "whileStatement", "(I)V"⟩, 4)) 31 (by decide +kernel) (by decide +kernel), kc_Cp_whileStatement, gtm (w := .initialized "PascalMachine$Compiler") 2 (by decide +kernel) (by decide +kernel), ⟨by decide +kernel, by decide +kernel⟩, by decide +kernel, by decide⟩
theorem Y_Cp_writeStatement : Yw y_Cp_writeStatement b_Cp_writeStatement 1 none 0 := ⟨gtm (w := .instanceMethod ⟨"PascalMachine$Compiler", "writeStatement", "()V"⟩) 669 (by decide +kernel) (by decide +kernel), gts (q := (⟨"PascalMachine$Compiler", "writeStatement", "()V"⟩, 4)) 32 (by decide +kernel) (by decide +kernel), kc_Cp_writeStatement, gtm (w := .initialized "PascalMachine$Compiler") 2 (by decide +kernel) (by decide +kernel), ⟨by decide +kernel, by decide +kernel⟩, by decide +kernel, by decide⟩
theorem Y_Cp_condition : Yw y_Cp_condition b_Cp_condition 2 (some .int) 0 := ⟨gtm (w := .instanceMethod ⟨"PascalMachine$Compiler", "condition", "()I"⟩) 647 (by decide +kernel) (by decide +kernel), gts (q := (⟨"PascalMachine$Compiler", "condition", "()I"⟩, 4)) 29 (by decide +kernel) (by decide +kernel), kc_Cp_condition, gtm (w := .initialized "PascalMachine$Compiler") 2 (by decide +kernel) (by decide +kernel), ⟨by decide +kernel, by decide +kernel⟩, by decide +kernel, by decide⟩
theorem Y_Cp_comparison : Yw y_Cp_comparison b_Cp_comparison 1 (some .int) 0 := ⟨gtm (w := .instanceMethod ⟨"PascalMachine$Compiler", "comparison", "()I"⟩) 651 (by decide +kernel) (by decide +kernel), gts (q := (⟨"PascalMachine$Compiler", "comparison", "()I"⟩, 4)) 30 (by decide +kernel) (by decide +kernel), kc_Cp_comparison, gtm (w := .initialized "PascalMachine$Compiler") 2 (by decide +kernel) (by decide +kernel), ⟨by decide +kernel, by decide +kernel⟩, by decide +kernel, by decide⟩
theorem Y_Cp_expression : Yw y_Cp_expression b_Cp_expression 5 none 1 := ⟨gtm (w := .instanceMethod ⟨"PascalMachine$Compiler", "expression", "(I)V"⟩) 587 (by decide +kernel) (by decide +kernel), gts (q := (⟨"PascalMachine$Compiler", "expression", "(I)V"⟩, 4)) 20 (by decide +kernel) (by decide +kernel), kc_Cp_expression, gtm (w := .initialized "PascalMachine$Compiler") 2 (by decide +kernel) (by decide +kernel), ⟨by decide +kernel, by decide +kernel⟩, by decide +kernel, by decide⟩
theorem Y_Cp_term : Yw y_Cp_term b_Cp_term 4 none 1 := ⟨gtm (w := .instanceMethod ⟨"PascalMachine$Compiler", "term", "(I)V"⟩) 593 (by decide +kernel) (by decide +kernel), gts (q := (⟨"PascalMachine$Compiler", "term", "(I)V"⟩, 4)) 21 (by decide +kernel) (by decide +kernel), kc_Cp_term, gtm (w := .initialized "PascalMachine$Compiler") 2 (by decide +kernel) (by decide +kernel), ⟨by decide +kernel, by decide +kernel⟩, by decide +kernel, by decide⟩
theorem Y_Cp_multiplication : Yw y_Cp_multiplication b_Cp_multiplication 1 (some .int) 0 := ⟨gtm (w := .instanceMethod ⟨"PascalMachine$Compiler", "multiplication", "()I"⟩) 617 (by decide +kernel) (by decide +kernel), gts (q := (⟨"PascalMachine$Compiler", "multiplication", "()I"⟩, 4)) 24 (by decide +kernel) (by decide +kernel), kc_Cp_multiplication, gtm (w := .initialized "PascalMachine$Compiler") 2 (by decide +kernel) (by decide +kernel), ⟨by decide +kernel, by decide +kernel⟩, by decide +kernel, by decide⟩
theorem Y_Cp_factor : Yw y_Cp_factor b_Cp_factor 2 none 1 := ⟨gtm (w := .instanceMethod ⟨"PascalMachine$Compiler", "factor", "(I)V"⟩) 597 (by decide +kernel) (by decide +kernel), gts (q := (⟨"PascalMachine$Compiler", "factor", "(I)V"⟩, 4)) 22 (by decide +kernel) (by decide +kernel), kc_Cp_factor, gtm (w := .initialized "PascalMachine$Compiler") 2 (by decide +kernel) (by decide +kernel), ⟨by decide +kernel, by decide +kernel⟩, by decide +kernel, by decide⟩
theorem Y_Cp_variable : Yw y_Cp_variable b_Cp_variable 3 none 0 := ⟨gtm (w := .instanceMethod ⟨"PascalMachine$Compiler", "variable", "()V"⟩) 601 (by decide +kernel) (by decide +kernel), gts (q := (⟨"PascalMachine$Compiler", "variable", "()V"⟩, 4)) 23 (by decide +kernel) (by decide +kernel), kc_Cp_variable, gtm (w := .initialized "PascalMachine$Compiler") 2 (by decide +kernel) (by decide +kernel), ⟨by decide +kernel, by decide +kernel⟩, by decide +kernel, by decide⟩
theorem Y_Mc_execute : Yw y_Mc_execute b_Mc_execute 3 none 0 := ⟨gtm (w := .instanceMethod ⟨"PascalMachine$Machine", "execute", "()V"⟩) 706 (by decide +kernel) (by decide +kernel), gtm (w := .selects "PascalMachine$Machine" ⟨"PascalMachine$Machine", "execute", "()V"⟩ ⟨"PascalMachine$Machine", "execute", "()V"⟩) 707 (by decide +kernel) (by decide +kernel), kc_Mc_execute, gtm (w := .initialized "PascalMachine$Machine") 6 (by decide +kernel) (by decide +kernel), ⟨by decide +kernel, by decide +kernel⟩, by decide +kernel, by decide⟩
theorem Y_Mc_begin : Yw y_Mc_begin b_Mc_begin 1 none 0 := ⟨gtm (w := .instanceMethod ⟨"PascalMachine$Machine", "begin", "()V"⟩) 711 (by decide +kernel) (by decide +kernel), gts (q := (⟨"PascalMachine$Machine", "begin", "()V"⟩, 13)) 33 (by decide +kernel) (by decide +kernel), kc_Mc_begin, gtm (w := .initialized "PascalMachine$Machine") 6 (by decide +kernel) (by decide +kernel), ⟨by decide +kernel, by decide +kernel⟩, by decide +kernel, by decide⟩
theorem Y_Mc_clearFrame : Yw y_Mc_clearFrame b_Mc_clearFrame 2 none 0 := ⟨gtm (w := .instanceMethod ⟨"PascalMachine$Machine", "clearFrame", "()V"⟩) 715 (by decide +kernel) (by decide +kernel), gts (q := (⟨"PascalMachine$Machine", "clearFrame", "()V"⟩, 13)) 34 (by decide +kernel) (by decide +kernel), kc_Mc_clearFrame, gtm (w := .initialized "PascalMachine$Machine") 6 (by decide +kernel) (by decide +kernel), ⟨by decide +kernel, by decide +kernel⟩, by decide +kernel, by decide⟩
theorem Y_Mc_perform : Yw y_Mc_perform b_Mc_perform 4 none 3 := ⟨gtm (w := .instanceMethod ⟨"PascalMachine$Machine", "perform", "(III)V"⟩) 724 (by decide +kernel) (by decide +kernel), gts (q := (⟨"PascalMachine$Machine", "perform", "(III)V"⟩, 13)) 36 (by decide +kernel) (by decide +kernel), kc_Mc_perform, gtm (w := .initialized "PascalMachine$Machine") 6 (by decide +kernel) (by decide +kernel), ⟨by decide +kernel, by decide +kernel⟩, by decide +kernel, by decide⟩
theorem Y_Mc_takeStep : Yw y_Mc_takeStep b_Mc_takeStep 1 none 0 := ⟨gtm (w := .instanceMethod ⟨"PascalMachine$Machine", "takeStep", "()V"⟩) 728 (by decide +kernel) (by decide +kernel), gts (q := (⟨"PascalMachine$Machine", "takeStep", "()V"⟩, 13)) 37 (by decide +kernel) (by decide +kernel), kc_Mc_takeStep, gtm (w := .initialized "PascalMachine$Machine") 6 (by decide +kernel) (by decide +kernel), ⟨by decide +kernel, by decide +kernel⟩, by decide +kernel, by decide⟩
theorem Y_Mc_combine : Yw y_Mc_combine b_Mc_combine 4 none 1 := ⟨gtm (w := .instanceMethod ⟨"PascalMachine$Machine", "combine", "(I)V"⟩) 784 (by decide +kernel) (by decide +kernel), gts (q := (⟨"PascalMachine$Machine", "combine", "(I)V"⟩, 13)) 46 (by decide +kernel) (by decide +kernel), kc_Mc_combine, gtm (w := .initialized "PascalMachine$Machine") 6 (by decide +kernel) (by decide +kernel), ⟨by decide +kernel, by decide +kernel⟩, by decide +kernel, by decide⟩
theorem Y_Mc_isTrue : Ys y_Mc_isTrue b_Mc_isTrue 3 (some .boolean) 3 := ⟨gtm (w := .static ⟨"PascalMachine$Machine", "isTrue", "(III)Z"⟩) 787 (by decide +kernel) (by decide +kernel), kc_Mc_isTrue, gtm (w := .initialized "PascalMachine$Machine") 6 (by decide +kernel) (by decide +kernel), ⟨by decide +kernel, by decide +kernel⟩, by decide +kernel, by decide⟩
theorem Y_Mc_calculate : Ys y_Mc_calculate b_Mc_calculate 3 (some .int) 3 := ⟨gtm (w := .static ⟨"PascalMachine$Machine", "calculate", "(III)I"⟩) 790 (by decide +kernel) (by decide +kernel), kc_Mc_calculate, gtm (w := .initialized "PascalMachine$Machine") 6 (by decide +kernel) (by decide +kernel), ⟨by decide +kernel, by decide +kernel⟩, by decide +kernel, by decide⟩
theorem Y_Mc_divide : Ys y_Mc_divide b_Mc_divide 3 (some .int) 3 := ⟨gtm (w := .static ⟨"PascalMachine$Machine", "divide", "(ZII)I"⟩) 793 (by decide +kernel) (by decide +kernel), kc_Mc_divide, gtm (w := .initialized "PascalMachine$Machine") 6 (by decide +kernel) (by decide +kernel), ⟨by decide +kernel, by decide +kernel⟩, by decide +kernel, by decide⟩
theorem Y_Mc_enter : Yw y_Mc_enter b_Mc_enter 4 none 2 := ⟨gtm (w := .instanceMethod ⟨"PascalMachine$Machine", "enter", "(II)V"⟩) 754 (by decide +kernel) (by decide +kernel), gts (q := (⟨"PascalMachine$Machine", "enter", "(II)V"⟩, 13)) 43 (by decide +kernel) (by decide +kernel), kc_Mc_enter, gtm (w := .initialized "PascalMachine$Machine") 6 (by decide +kernel) (by decide +kernel), ⟨by decide +kernel, by decide +kernel⟩, by decide +kernel, by decide⟩
theorem Y_Mc_leave : Yw y_Mc_leave b_Mc_leave 1 none 0 := ⟨gtm (w := .instanceMethod ⟨"PascalMachine$Machine", "leave", "()V"⟩) 776 (by decide +kernel) (by decide +kernel), gts (q := (⟨"PascalMachine$Machine", "leave", "()V"⟩, 13)) 44 (by decide +kernel) (by decide +kernel), kc_Mc_leave, gtm (w := .initialized "PascalMachine$Machine") 6 (by decide +kernel) (by decide +kernel), ⟨by decide +kernel, by decide +kernel⟩, by decide +kernel, by decide⟩
theorem Y_Mc_put : Yw y_Mc_put b_Mc_put 2 none 1 := ⟨gtm (w := .instanceMethod ⟨"PascalMachine$Machine", "put", "(I)V"⟩) 780 (by decide +kernel) (by decide +kernel), gts (q := (⟨"PascalMachine$Machine", "put", "(I)V"⟩, 13)) 45 (by decide +kernel) (by decide +kernel), kc_Mc_put, gtm (w := .initialized "PascalMachine$Machine") 6 (by decide +kernel) (by decide +kernel), ⟨by decide +kernel, by decide +kernel⟩, by decide +kernel, by decide⟩
theorem Y_Mc_frameOutward : Yw y_Mc_frameOutward b_Mc_frameOutward 4 (some .int) 1 := ⟨gtm (w := .instanceMethod ⟨"PascalMachine$Machine", "frameOutward", "(I)I"⟩) 742 (by decide +kernel) (by decide +kernel), gts (q := (⟨"PascalMachine$Machine", "frameOutward", "(I)I"⟩, 13)) 40 (by decide +kernel) (by decide +kernel), kc_Mc_frameOutward, gtm (w := .initialized "PascalMachine$Machine") 6 (by decide +kernel) (by decide +kernel), ⟨by decide +kernel, by decide +kernel⟩, by decide +kernel, by decide⟩
theorem Y_Mc_address : Yw y_Mc_address b_Mc_address 3 (some .int) 2 := ⟨gtm (w := .instanceMethod ⟨"PascalMachine$Machine", "address", "(II)I"⟩) 738 (by decide +kernel) (by decide +kernel), gts (q := (⟨"PascalMachine$Machine", "address", "(II)I"⟩, 13)) 39 (by decide +kernel) (by decide +kernel), kc_Mc_address, gtm (w := .initialized "PascalMachine$Machine") 6 (by decide +kernel) (by decide +kernel), ⟨by decide +kernel, by decide +kernel⟩, by decide +kernel, by decide⟩
theorem Y_Mc_load : Yw y_Mc_load b_Mc_load 2 (some .int) 1 := ⟨gtm (w := .instanceMethod ⟨"PascalMachine$Machine", "load", "(I)I"⟩) 746 (by decide +kernel) (by decide +kernel), gts (q := (⟨"PascalMachine$Machine", "load", "(I)I"⟩, 13)) 41 (by decide +kernel) (by decide +kernel), kc_Mc_load, gtm (w := .initialized "PascalMachine$Machine") 6 (by decide +kernel) (by decide +kernel), ⟨by decide +kernel, by decide +kernel⟩, by decide +kernel, by decide⟩
theorem Y_Mc_store : Yw y_Mc_store b_Mc_store 3 none 2 := ⟨gtm (w := .instanceMethod ⟨"PascalMachine$Machine", "store", "(II)V"⟩) 719 (by decide +kernel) (by decide +kernel), gts (q := (⟨"PascalMachine$Machine", "store", "(II)V"⟩, 13)) 35 (by decide +kernel) (by decide +kernel), kc_Mc_store, gtm (w := .initialized "PascalMachine$Machine") 6 (by decide +kernel) (by decide +kernel), ⟨by decide +kernel, by decide +kernel⟩, by decide +kernel, by decide⟩
theorem Y_Mc_push : Yw y_Mc_push b_Mc_push 2 none 1 := ⟨gtm (w := .instanceMethod ⟨"PascalMachine$Machine", "push", "(I)V"⟩) 734 (by decide +kernel) (by decide +kernel), gts (q := (⟨"PascalMachine$Machine", "push", "(I)V"⟩, 13)) 38 (by decide +kernel) (by decide +kernel), kc_Mc_push, gtm (w := .initialized "PascalMachine$Machine") 6 (by decide +kernel) (by decide +kernel), ⟨by decide +kernel, by decide +kernel⟩, by decide +kernel, by decide⟩
theorem Y_Mc_pop : Yw y_Mc_pop b_Mc_pop 1 (some .int) 0 := ⟨gtm (w := .instanceMethod ⟨"PascalMachine$Machine", "pop", "()I"⟩) 750 (by decide +kernel) (by decide +kernel), gts (q := (⟨"PascalMachine$Machine", "pop", "()I"⟩, 13)) 42 (by decide +kernel) (by decide +kernel), kc_Mc_pop, gtm (w := .initialized "PascalMachine$Machine") 6 (by decide +kernel) (by decide +kernel), ⟨by decide +kernel, by decide +kernel⟩, by decide +kernel, by decide⟩
theorem Y_Nm_clear : Yw y_Nm_clear b_Nm_clear 1 none 0 := ⟨gtm (w := .instanceMethod ⟨"PascalMachine$Names", "clear", "()V"⟩) 451 (by decide +kernel) (by decide +kernel), gtm (w := .selects "PascalMachine$Names" ⟨"PascalMachine$Names", "clear", "()V"⟩ ⟨"PascalMachine$Names", "clear", "()V"⟩) 452 (by decide +kernel) (by decide +kernel), kc_Nm_clear, gtm (w := .initialized "PascalMachine$Names") 4 (by decide +kernel) (by decide +kernel), ⟨by decide +kernel, by decide +kernel⟩, by decide +kernel, by decide⟩
theorem Y_Nm_declared : Yw y_Nm_declared b_Nm_declared 1 (some .int) 0 := ⟨gtm (w := .instanceMethod ⟨"PascalMachine$Names", "declared", "()I"⟩) 677 (by decide +kernel) (by decide +kernel), gtm (w := .selects "PascalMachine$Names" ⟨"PascalMachine$Names", "declared", "()I"⟩ ⟨"PascalMachine$Names", "declared", "()I"⟩) 678 (by decide +kernel) (by decide +kernel), kc_Nm_declared, gtm (w := .initialized "PascalMachine$Names") 4 (by decide +kernel) (by decide +kernel), ⟨by decide +kernel, by decide +kernel⟩, by decide +kernel, by decide⟩
theorem Y_Nm_open : Yw y_Nm_open b_Nm_open 1 none 0 := ⟨gtm (w := .instanceMethod ⟨"PascalMachine$Names", "open", "()V"⟩) 527 (by decide +kernel) (by decide +kernel), gtm (w := .selects "PascalMachine$Names" ⟨"PascalMachine$Names", "open", "()V"⟩ ⟨"PascalMachine$Names", "open", "()V"⟩) 528 (by decide +kernel) (by decide +kernel), kc_Nm_open, gtm (w := .initialized "PascalMachine$Names") 4 (by decide +kernel) (by decide +kernel), ⟨by decide +kernel, by decide +kernel⟩, by decide +kernel, by decide⟩
theorem Y_Nm_close : Yw y_Nm_close b_Nm_close 1 none 0 := ⟨gtm (w := .instanceMethod ⟨"PascalMachine$Names", "close", "()V"⟩) 545 (by decide +kernel) (by decide +kernel), gtm (w := .selects "PascalMachine$Names" ⟨"PascalMachine$Names", "close", "()V"⟩ ⟨"PascalMachine$Names", "close", "()V"⟩) 546 (by decide +kernel) (by decide +kernel), kc_Nm_close, gtm (w := .initialized "PascalMachine$Names") 4 (by decide +kernel) (by decide +kernel), ⟨by decide +kernel, by decide +kernel⟩, by decide +kernel, by decide⟩
theorem Y_Nm_declare : Yw y_Nm_declare b_Nm_declare 6 (some .boolean) 2 := ⟨gtm (w := .instanceMethod ⟨"PascalMachine$Names", "declare", "(JI)Z"⟩) 486 (by decide +kernel) (by decide +kernel), gtm (w := .selects "PascalMachine$Names" ⟨"PascalMachine$Names", "declare", "(JI)Z"⟩ ⟨"PascalMachine$Names", "declare", "(JI)Z"⟩) 487 (by decide +kernel) (by decide +kernel), kc_Nm_declare, gtm (w := .initialized "PascalMachine$Names") 4 (by decide +kernel) (by decide +kernel), ⟨by decide +kernel, by decide +kernel⟩, by decide +kernel, by decide⟩
theorem Y_Nm_isFull : Yw y_Nm_isFull b_Nm_isFull 2 (some .boolean) 1 := ⟨gtm (w := .instanceMethod ⟨"PascalMachine$Names", "isFull", "(I)Z"⟩) 495 (by decide +kernel) (by decide +kernel), gts (q := (⟨"PascalMachine$Names", "isFull", "(I)Z"⟩, 9)) 11 (by decide +kernel) (by decide +kernel), kc_Nm_isFull, gtm (w := .initialized "PascalMachine$Names") 4 (by decide +kernel) (by decide +kernel), ⟨by decide +kernel, by decide +kernel⟩, by decide +kernel, by decide⟩
theorem Y_Nm_find : Yw y_Nm_find b_Nm_find 4 (some .int) 1 := ⟨gtm (w := .instanceMethod ⟨"PascalMachine$Names", "find", "(J)I"⟩) 490 (by decide +kernel) (by decide +kernel), gtm (w := .selects "PascalMachine$Names" ⟨"PascalMachine$Names", "find", "(J)I"⟩ ⟨"PascalMachine$Names", "find", "(J)I"⟩) 491 (by decide +kernel) (by decide +kernel), kc_Nm_find, gtm (w := .initialized "PascalMachine$Names") 4 (by decide +kernel) (by decide +kernel), ⟨by decide +kernel, by decide +kernel⟩, by decide +kernel, by decide⟩
theorem Y_Nm_isProcedure : Yw y_Nm_isProcedure b_Nm_isProcedure 2 (some .boolean) 1 := ⟨gtm (w := .instanceMethod ⟨"PascalMachine$Names", "isProcedure", "(I)Z"⟩) 578 (by decide +kernel) (by decide +kernel), gtm (w := .selects "PascalMachine$Names" ⟨"PascalMachine$Names", "isProcedure", "(I)Z"⟩ ⟨"PascalMachine$Names", "isProcedure", "(I)Z"⟩) 579 (by decide +kernel) (by decide +kernel), kc_Nm_isProcedure, gtm (w := .initialized "PascalMachine$Names") 4 (by decide +kernel) (by decide +kernel), ⟨by decide +kernel, by decide +kernel⟩, by decide +kernel, by decide⟩
theorem Y_Nm_isReference : Yw y_Nm_isReference b_Nm_isReference 2 (some .boolean) 1 := ⟨gtm (w := .instanceMethod ⟨"PascalMachine$Names", "isReference", "(I)Z"⟩) 604 (by decide +kernel) (by decide +kernel), gtm (w := .selects "PascalMachine$Names" ⟨"PascalMachine$Names", "isReference", "(I)Z"⟩ ⟨"PascalMachine$Names", "isReference", "(I)Z"⟩) 605 (by decide +kernel) (by decide +kernel), kc_Nm_isReference, gtm (w := .initialized "PascalMachine$Names") 4 (by decide +kernel) (by decide +kernel), ⟨by decide +kernel, by decide +kernel⟩, by decide +kernel, by decide⟩
theorem Y_Nm_hops : Yw y_Nm_hops b_Nm_hops 2 (some .int) 1 := ⟨gtm (w := .instanceMethod ⟨"PascalMachine$Names", "hops", "(I)I"⟩) 608 (by decide +kernel) (by decide +kernel), gtm (w := .selects "PascalMachine$Names" ⟨"PascalMachine$Names", "hops", "(I)I"⟩ ⟨"PascalMachine$Names", "hops", "(I)I"⟩) 609 (by decide +kernel) (by decide +kernel), kc_Nm_hops, gtm (w := .initialized "PascalMachine$Names") 4 (by decide +kernel) (by decide +kernel), ⟨by decide +kernel, by decide +kernel⟩, by decide +kernel, by decide⟩
theorem Y_Nm_number : Yw y_Nm_number b_Nm_number 2 (some .int) 1 := ⟨gtm (w := .instanceMethod ⟨"PascalMachine$Names", "number", "(I)I"⟩) 612 (by decide +kernel) (by decide +kernel), gtm (w := .selects "PascalMachine$Names" ⟨"PascalMachine$Names", "number", "(I)I"⟩ ⟨"PascalMachine$Names", "number", "(I)I"⟩) 613 (by decide +kernel) (by decide +kernel), kc_Nm_number, gtm (w := .initialized "PascalMachine$Names") 4 (by decide +kernel) (by decide +kernel), ⟨by decide +kernel, by decide +kernel⟩, by decide +kernel, by decide⟩
theorem Y_Nm_lastProcedure : Yw y_Nm_lastProcedure b_Nm_lastProcedure 1 (some .int) 0 := ⟨gtm (w := .instanceMethod ⟨"PascalMachine$Names", "lastProcedure", "()I"⟩) 523 (by decide +kernel) (by decide +kernel), gtm (w := .selects "PascalMachine$Names" ⟨"PascalMachine$Names", "lastProcedure", "()I"⟩ ⟨"PascalMachine$Names", "lastProcedure", "()I"⟩) 524 (by decide +kernel) (by decide +kernel), kc_Nm_lastProcedure, gtm (w := .initialized "PascalMachine$Names") 4 (by decide +kernel) (by decide +kernel), ⟨by decide +kernel, by decide +kernel⟩, by decide +kernel, by decide⟩
theorem Y_Tk_read : Yw y_Tk_read b_Tk_read 5 none 2 := ⟨gtm (w := .instanceMethod ⟨"PascalMachine$Tokens", "read", "([CI)V"⟩) 351 (by decide +kernel) (by decide +kernel), gtm (w := .selects "PascalMachine$Tokens" ⟨"PascalMachine$Tokens", "read", "([CI)V"⟩ ⟨"PascalMachine$Tokens", "read", "([CI)V"⟩) 352 (by decide +kernel) (by decide +kernel), kc_Tk_read, gtm (w := .initialized "PascalMachine$Tokens") 3 (by decide +kernel) (by decide +kernel), ⟨by decide +kernel, by decide +kernel⟩, by decide +kernel, by decide⟩
theorem Y_Tk_readToken : Yw y_Tk_readToken b_Tk_readToken 3 (some (.object "PascalMachine$Kind")) 1 := ⟨gtm (w := .instanceMethod ⟨"PascalMachine$Tokens", "readToken", "(I)LPascalMachine$Kind;"⟩) 356 (by decide +kernel) (by decide +kernel), gts (q := (⟨"PascalMachine$Tokens", "readToken", "(I)LPascalMachine$Kind;"⟩, 7)) 1 (by decide +kernel) (by decide +kernel), kc_Tk_readToken, gtm (w := .initialized "PascalMachine$Tokens") 3 (by decide +kernel) (by decide +kernel), ⟨by decide +kernel, by decide +kernel⟩, by decide +kernel, by decide⟩
theorem Y_Tk_behindBlanks : Yw y_Tk_behindBlanks b_Tk_behindBlanks 2 (some .int) 0 := ⟨gtm (w := .instanceMethod ⟨"PascalMachine$Tokens", "behindBlanks", "()I"⟩) 360 (by decide +kernel) (by decide +kernel), gts (q := (⟨"PascalMachine$Tokens", "behindBlanks", "()I"⟩, 7)) 2 (by decide +kernel) (by decide +kernel), kc_Tk_behindBlanks, gtm (w := .initialized "PascalMachine$Tokens") 3 (by decide +kernel) (by decide +kernel), ⟨by decide +kernel, by decide +kernel⟩, by decide +kernel, by decide⟩
theorem Y_Tk_readWord : Yw y_Tk_readWord b_Tk_readWord 5 (some (.object "PascalMachine$Kind")) 2 := ⟨gtm (w := .instanceMethod ⟨"PascalMachine$Tokens", "readWord", "(II)LPascalMachine$Kind;"⟩) 371 (by decide +kernel) (by decide +kernel), gts (q := (⟨"PascalMachine$Tokens", "readWord", "(II)LPascalMachine$Kind;"⟩, 7)) 3 (by decide +kernel) (by decide +kernel), kc_Tk_readWord, gtm (w := .initialized "PascalMachine$Tokens") 3 (by decide +kernel) (by decide +kernel), ⟨by decide +kernel, by decide +kernel⟩, by decide +kernel, by decide⟩
theorem Y_Tk_readNumber : Yw y_Tk_readNumber b_Tk_readNumber 5 (some (.object "PascalMachine$Kind")) 2 := ⟨gtm (w := .instanceMethod ⟨"PascalMachine$Tokens", "readNumber", "(II)LPascalMachine$Kind;"⟩) 438 (by decide +kernel) (by decide +kernel), gts (q := (⟨"PascalMachine$Tokens", "readNumber", "(II)LPascalMachine$Kind;"⟩, 7)) 6 (by decide +kernel) (by decide +kernel), kc_Tk_readNumber, gtm (w := .initialized "PascalMachine$Tokens") 3 (by decide +kernel) (by decide +kernel), ⟨by decide +kernel, by decide +kernel⟩, by decide +kernel, by decide⟩
theorem Y_Tk_readSign : Yw y_Tk_readSign b_Tk_readSign 2 (some (.object "PascalMachine$Kind")) 1 := ⟨gtm (w := .instanceMethod ⟨"PascalMachine$Tokens", "readSign", "(I)LPascalMachine$Kind;"⟩) 445 (by decide +kernel) (by decide +kernel), gts (q := (⟨"PascalMachine$Tokens", "readSign", "(I)LPascalMachine$Kind;"⟩, 7)) 7 (by decide +kernel) (by decide +kernel), kc_Tk_readSign, gtm (w := .initialized "PascalMachine$Tokens") 3 (by decide +kernel) (by decide +kernel), ⟨by decide +kernel, by decide +kernel⟩, by decide +kernel, by decide⟩
theorem Y_Tk_kindSpelled : Yw y_Tk_kindSpelled b_Tk_kindSpelled 4 (some (.object "PascalMachine$Kind")) 2 := ⟨gtm (w := .instanceMethod ⟨"PascalMachine$Tokens", "kindSpelled", "(ILPascalMachine$Kind;)LPascalMachine$Kind;"⟩) 380 (by decide +kernel) (by decide +kernel), gts (q := (⟨"PascalMachine$Tokens", "kindSpelled", "(ILPascalMachine$Kind;)LPascalMachine$Kind;"⟩, 7)) 4 (by decide +kernel) (by decide +kernel), kc_Tk_kindSpelled, gtm (w := .initialized "PascalMachine$Tokens") 3 (by decide +kernel) (by decide +kernel), ⟨by decide +kernel, by decide +kernel⟩, by decide +kernel, by decide⟩
theorem Y_Tk_isSpelled : Yw y_Tk_isSpelled b_Tk_isSpelled 4 (some .boolean) 2 := ⟨gtm (w := .instanceMethod ⟨"PascalMachine$Tokens", "isSpelled", "(ILjava/lang/String;)Z"⟩) 386 (by decide +kernel) (by decide +kernel), gts (q := (⟨"PascalMachine$Tokens", "isSpelled", "(ILjava/lang/String;)Z"⟩, 7)) 5 (by decide +kernel) (by decide +kernel), kc_Tk_isSpelled, gtm (w := .initialized "PascalMachine$Tokens") 3 (by decide +kernel) (by decide +kernel), ⟨by decide +kernel, by decide +kernel⟩, by decide +kernel, by decide⟩
theorem Y_Tk_isLetter : Ys y_Tk_isLetter b_Tk_isLetter 1 (some .boolean) 1 := ⟨gtm (w := .static ⟨"PascalMachine$Tokens", "isLetter", "(C)Z"⟩) 367 (by decide +kernel) (by decide +kernel), kc_Tk_isLetter, gtm (w := .initialized "PascalMachine$Tokens") 3 (by decide +kernel) (by decide +kernel), ⟨by decide +kernel, by decide +kernel⟩, by decide +kernel, by decide⟩
theorem Y_Tk_isDigit : Ys y_Tk_isDigit b_Tk_isDigit 1 (some .boolean) 1 := ⟨gtm (w := .static ⟨"PascalMachine$Tokens", "isDigit", "(C)Z"⟩) 374 (by decide +kernel) (by decide +kernel), kc_Tk_isDigit, gtm (w := .initialized "PascalMachine$Tokens") 3 (by decide +kernel) (by decide +kernel), ⟨by decide +kernel, by decide +kernel⟩, by decide +kernel, by decide⟩
theorem Y_Tk_kind : Yw y_Tk_kind b_Tk_kind 1 (some (.object "PascalMachine$Kind")) 0 := ⟨gtm (w := .instanceMethod ⟨"PascalMachine$Tokens", "kind", "()LPascalMachine$Kind;"⟩) 477 (by decide +kernel) (by decide +kernel), gtm (w := .selects "PascalMachine$Tokens" ⟨"PascalMachine$Tokens", "kind", "()LPascalMachine$Kind;"⟩ ⟨"PascalMachine$Tokens", "kind", "()LPascalMachine$Kind;"⟩) 478 (by decide +kernel) (by decide +kernel), kc_Tk_kind, gtm (w := .initialized "PascalMachine$Tokens") 3 (by decide +kernel) (by decide +kernel), ⟨by decide +kernel, by decide +kernel⟩, by decide +kernel, by decide⟩
theorem Y_Tk_place : Yw y_Tk_place b_Tk_place 1 (some .int) 0 := ⟨gtm (w := .instanceMethod ⟨"PascalMachine$Tokens", "place", "()I"⟩) 498 (by decide +kernel) (by decide +kernel), gtm (w := .selects "PascalMachine$Tokens" ⟨"PascalMachine$Tokens", "place", "()I"⟩ ⟨"PascalMachine$Tokens", "place", "()I"⟩) 499 (by decide +kernel) (by decide +kernel), kc_Tk_place, gtm (w := .initialized "PascalMachine$Tokens") 3 (by decide +kernel) (by decide +kernel), ⟨by decide +kernel, by decide +kernel⟩, by decide +kernel, by decide⟩
theorem Y_Tk_content : Yw y_Tk_content b_Tk_content 1 (some .long) 0 := ⟨gtm (w := .instanceMethod ⟨"PascalMachine$Tokens", "content", "()J"⟩) 482 (by decide +kernel) (by decide +kernel), gtm (w := .selects "PascalMachine$Tokens" ⟨"PascalMachine$Tokens", "content", "()J"⟩ ⟨"PascalMachine$Tokens", "content", "()J"⟩) 483 (by decide +kernel) (by decide +kernel), kc_Tk_content, gtm (w := .initialized "PascalMachine$Tokens") 3 (by decide +kernel) (by decide +kernel), ⟨by decide +kernel, by decide +kernel⟩, by decide +kernel, by decide⟩
theorem Y_Tk_isBefore : Yw y_Tk_isBefore b_Tk_isBefore 2 (some .boolean) 1 := ⟨gtm (w := .instanceMethod ⟨"PascalMachine$Tokens", "isBefore", "(LPascalMachine$Kind;)Z"⟩) 569 (by decide +kernel) (by decide +kernel), gtm (w := .selects "PascalMachine$Tokens" ⟨"PascalMachine$Tokens", "isBefore", "(LPascalMachine$Kind;)Z"⟩ ⟨"PascalMachine$Tokens", "isBefore", "(LPascalMachine$Kind;)Z"⟩) 570 (by decide +kernel) (by decide +kernel), kc_Tk_isBefore, gtm (w := .initialized "PascalMachine$Tokens") 3 (by decide +kernel) (by decide +kernel), ⟨by decide +kernel, by decide +kernel⟩, by decide +kernel, by decide⟩
theorem Y_Tk_advance : Yw y_Tk_advance b_Tk_advance 1 none 0 := ⟨gtm (w := .instanceMethod ⟨"PascalMachine$Tokens", "advance", "()V"⟩) 465 (by decide +kernel) (by decide +kernel), gtm (w := .selects "PascalMachine$Tokens" ⟨"PascalMachine$Tokens", "advance", "()V"⟩ ⟨"PascalMachine$Tokens", "advance", "()V"⟩) 466 (by decide +kernel) (by decide +kernel), kc_Tk_advance, gtm (w := .initialized "PascalMachine$Tokens") 3 (by decide +kernel) (by decide +kernel), ⟨by decide +kernel, by decide +kernel⟩, by decide +kernel, by decide⟩
theorem Y_Tk_accept : Yw y_Tk_accept b_Tk_accept 2 (some .boolean) 1 := ⟨gtm (w := .instanceMethod ⟨"PascalMachine$Tokens", "accept", "(LPascalMachine$Kind;)Z"⟩) 461 (by decide +kernel) (by decide +kernel), gtm (w := .selects "PascalMachine$Tokens" ⟨"PascalMachine$Tokens", "accept", "(LPascalMachine$Kind;)Z"⟩ ⟨"PascalMachine$Tokens", "accept", "(LPascalMachine$Kind;)Z"⟩) 462 (by decide +kernel) (by decide +kernel), kc_Tk_accept, gtm (w := .initialized "PascalMachine$Tokens") 3 (by decide +kernel) (by decide +kernel), ⟨by decide +kernel, by decide +kernel⟩, by decide +kernel, by decide⟩
theorem Y_JS_length : Yw y_JS_length b_JS_length 1 (some .int) 0 := ⟨gtm (w := .instanceMethod ⟨"java/lang/String", "length", "()I"⟩) 389 (by decide +kernel) (by decide +kernel), gtm (w := .selects "java/lang/String" ⟨"java/lang/String", "length", "()I"⟩ ⟨"java/lang/String", "length", "()I"⟩) 390 (by decide +kernel) (by decide +kernel), kc_JS_length, gtm (w := .initialized "java/lang/String") 15 (by decide +kernel) (by decide +kernel), ⟨by decide +kernel, by decide +kernel⟩, by decide +kernel, by decide⟩
theorem Y_JS_coder : Yw y_JS_coder b_JS_coder 1 (some .byte) 0 := ⟨gtm (w := .instanceMethod ⟨"java/lang/String", "coder", "()B"⟩) 393 (by decide +kernel) (by decide +kernel), gtm (w := .selects "java/lang/String" ⟨"java/lang/String", "coder", "()B"⟩ ⟨"java/lang/String", "coder", "()B"⟩) 394 (by decide +kernel) (by decide +kernel), kc_JS_coder, gtm (w := .initialized "java/lang/String") 15 (by decide +kernel) (by decide +kernel), ⟨by decide +kernel, by decide +kernel⟩, by decide +kernel, by decide⟩
theorem Y_JS_charAt : Yw y_JS_charAt b_JS_charAt 2 (some .char) 1 := ⟨gtm (w := .instanceMethod ⟨"java/lang/String", "charAt", "(I)C"⟩) 399 (by decide +kernel) (by decide +kernel), gtm (w := .selects "java/lang/String" ⟨"java/lang/String", "charAt", "(I)C"⟩ ⟨"java/lang/String", "charAt", "(I)C"⟩) 400 (by decide +kernel) (by decide +kernel), kc_JS_charAt, gtm (w := .initialized "java/lang/String") 15 (by decide +kernel) (by decide +kernel), ⟨by decide +kernel, by decide +kernel⟩, by decide +kernel, by decide⟩
theorem Y_JS_isLatin1 : Yw y_JS_isLatin1 b_JS_isLatin1 1 (some .boolean) 0 := ⟨gtm (w := .instanceMethod ⟨"java/lang/String", "isLatin1", "()Z"⟩) 403 (by decide +kernel) (by decide +kernel), gtm (w := .selects "java/lang/String" ⟨"java/lang/String", "isLatin1", "()Z"⟩ ⟨"java/lang/String", "isLatin1", "()Z"⟩) 404 (by decide +kernel) (by decide +kernel), kc_JS_isLatin1, gtm (w := .initialized "java/lang/String") 15 (by decide +kernel) (by decide +kernel), ⟨by decide +kernel, by decide +kernel⟩, by decide +kernel, by decide⟩
theorem Y_JL_charAt : Ys y_JL_charAt b_JL_charAt 2 (some .char) 2 := ⟨gtm (w := .static ⟨"java/lang/StringLatin1", "charAt", "([BI)C"⟩) 407 (by decide +kernel) (by decide +kernel), kc_JL_charAt, gtm (w := .initialized "java/lang/StringLatin1") 16 (by decide +kernel) (by decide +kernel), ⟨by decide +kernel, by decide +kernel⟩, by decide +kernel, by decide⟩
theorem Y_JS_checkIndex : Ys y_JS_checkIndex b_JS_checkIndex 2 none 2 := ⟨gtm (w := .static ⟨"java/lang/String", "checkIndex", "(II)V"⟩) 410 (by decide +kernel) (by decide +kernel), kc_JS_checkIndex, gtm (w := .initialized "java/lang/String") 15 (by decide +kernel) (by decide +kernel), ⟨by decide +kernel, by decide +kernel⟩, by decide +kernel, by decide⟩
theorem Y_JM_min : Ys y_JM_min b_JM_min 2 (some .int) 2 := ⟨gtm (w := .static ⟨"java/lang/Math", "min", "(II)I"⟩) 448 (by decide +kernel) (by decide +kernel), kc_JM_min, gtm (w := .initialized "java/lang/Math") 19 (by decide +kernel) (by decide +kernel), ⟨by decide +kernel, by decide +kernel⟩, by decide +kernel, by decide⟩
theorem Y_JM_max : Ys y_JM_max b_JM_max 2 (some .int) 2 := ⟨gtm (w := .static ⟨"java/lang/Math", "max", "(II)I"⟩) 772 (by decide +kernel) (by decide +kernel), kc_JM_max, gtm (w := .initialized "java/lang/Math") 19 (by decide +kernel) (by decide +kernel), ⟨by decide +kernel, by decide +kernel⟩, by decide +kernel, by decide⟩
theorem Y_JP_checkIndex : Ys y_JP_checkIndex b_JP_checkIndex 3 (some .int) 3 := ⟨gtm (w := .static ⟨"jdk/internal/util/Preconditions", "checkIndex", "(IILjava/util/function/BiFunction;)I"⟩) 415 (by decide +kernel) (by decide +kernel), kc_JP_checkIndex, gtm (w := .initialized "jdk/internal/util/Preconditions") 17 (by decide +kernel) (by decide +kernel), ⟨by decide +kernel, by decide +kernel⟩, by decide +kernel, by decide⟩
end
section
/-! ===== the class's cells ===== -/
/-- kinds, places, contents, the text's address, length, end, current -/
abbrev Tk : Type := (Nat → Option Nat) × (Nat → Nat) × (Nat → Int64) × Nat × Nat × Nat × Nat
/-- words, kinds, levels, numbers, slots, known, level, variables, procedures -/
abbrev Nm : Type := (Nat → Int64) × (Nat → Nat) × (Nat → Nat) × (Nat → Nat) × (Nat → Nat) × Nat × Nat × Nat × Nat
/-- operations, firsts, seconds, entries, parameters, references, size, start -/
abbrev Co : Type := (Nat → Nat) × (Nat → Nat) × (Nat → Nat) × (Nat → Nat) × (Nat → Nat) × (Nat → Nat) × Nat × Nat
/-- cells, outerFrames, returns, stack, top, depth, next, values, written, lost, steps, deepest -/
abbrev Mc : Type := (Nat → Int32) × (Nat → Nat) × (Nat → Nat) × (Nat → Int32) × Nat × Nat × Nat × (Nat → Int32) × Nat × Nat × Nat × Nat
/-- text, length, hasProgram -/
abbrev Pm : Type := (Nat → Nat) × Nat × Bool
abbrev Tk.kinds (q : Tk) := q.1
abbrev Tk.places (q : Tk) := q.2.1
abbrev Tk.contents (q : Tk) := q.2.2.1
abbrev Tk.text (q : Tk) := q.2.2.2.1
abbrev Tk.length (q : Tk) := q.2.2.2.2.1
abbrev Tk.fin (q : Tk) := q.2.2.2.2.2.1
abbrev Tk.current (q : Tk) := q.2.2.2.2.2.2
abbrev Nm.words (q : Nm) := q.1
abbrev Nm.kinds (q : Nm) := q.2.1
abbrev Nm.levels (q : Nm) := q.2.2.1
abbrev Nm.numbers (q : Nm) := q.2.2.2.1
abbrev Nm.slots (q : Nm) := q.2.2.2.2.1
abbrev Nm.known (q : Nm) := q.2.2.2.2.2.1
abbrev Nm.level (q : Nm) := q.2.2.2.2.2.2.1
abbrev Nm.variables (q : Nm) := q.2.2.2.2.2.2.2.1
abbrev Nm.procedures (q : Nm) := q.2.2.2.2.2.2.2.2
abbrev Co.operations (q : Co) := q.1
abbrev Co.firsts (q : Co) := q.2.1
abbrev Co.seconds (q : Co) := q.2.2.1
abbrev Co.entries (q : Co) := q.2.2.2.1
abbrev Co.parameters (q : Co) := q.2.2.2.2.1
abbrev Co.references (q : Co) := q.2.2.2.2.2.1
abbrev Co.size (q : Co) := q.2.2.2.2.2.2.1
abbrev Co.start (q : Co) := q.2.2.2.2.2.2.2
abbrev Mc.cells (q : Mc) := q.1
abbrev Mc.outerFrames (q : Mc) := q.2.1
abbrev Mc.returns (q : Mc) := q.2.2.1
abbrev Mc.stack (q : Mc) := q.2.2.2.1
abbrev Mc.top (q : Mc) := q.2.2.2.2.1
abbrev Mc.depth (q : Mc) := q.2.2.2.2.2.1
abbrev Mc.next (q : Mc) := q.2.2.2.2.2.2.1
abbrev Mc.values (q : Mc) := q.2.2.2.2.2.2.2.1
abbrev Mc.written (q : Mc) := q.2.2.2.2.2.2.2.2.1
abbrev Mc.lost (q : Mc) := q.2.2.2.2.2.2.2.2.2.1
abbrev Mc.steps (q : Mc) := q.2.2.2.2.2.2.2.2.2.2.1
abbrev Mc.deepest (q : Mc) := q.2.2.2.2.2.2.2.2.2.2.2
abbrev Pm.text (q : Pm) := q.1
abbrev Pm.length (q : Pm) := q.2.1
abbrev Pm.hasProgram (q : Pm) := q.2.2
abbrev Tk.to_kinds (q : Tk) (x : Nat → Option Nat) : Tk := (x, q.2.1, q.2.2.1, q.2.2.2.1, q.2.2.2.2.1, q.2.2.2.2.2.1, q.2.2.2.2.2.2)
abbrev Tk.to_places (q : Tk) (x : Nat → Nat) : Tk := (q.1, x, q.2.2.1, q.2.2.2.1, q.2.2.2.2.1, q.2.2.2.2.2.1, q.2.2.2.2.2.2)
abbrev Tk.to_contents (q : Tk) (x : Nat → Int64) : Tk := (q.1, q.2.1, x, q.2.2.2.1, q.2.2.2.2.1, q.2.2.2.2.2.1, q.2.2.2.2.2.2)
abbrev Tk.to_text (q : Tk) (x : Nat) : Tk := (q.1, q.2.1, q.2.2.1, x, q.2.2.2.2.1, q.2.2.2.2.2.1, q.2.2.2.2.2.2)
abbrev Tk.to_length (q : Tk) (x : Nat) : Tk := (q.1, q.2.1, q.2.2.1, q.2.2.2.1, x, q.2.2.2.2.2.1, q.2.2.2.2.2.2)
abbrev Tk.to_fin (q : Tk) (x : Nat) : Tk := (q.1, q.2.1, q.2.2.1, q.2.2.2.1, q.2.2.2.2.1, x, q.2.2.2.2.2.2)
abbrev Tk.to_current (q : Tk) (x : Nat) : Tk := (q.1, q.2.1, q.2.2.1, q.2.2.2.1, q.2.2.2.2.1, q.2.2.2.2.2.1, x)
abbrev Nm.to_words (q : Nm) (x : Nat → Int64) : Nm := (x, q.2.1, q.2.2.1, q.2.2.2.1, q.2.2.2.2.1, q.2.2.2.2.2.1, q.2.2.2.2.2.2.1, q.2.2.2.2.2.2.2.1, q.2.2.2.2.2.2.2.2)
abbrev Nm.to_kinds (q : Nm) (x : Nat → Nat) : Nm := (q.1, x, q.2.2.1, q.2.2.2.1, q.2.2.2.2.1, q.2.2.2.2.2.1, q.2.2.2.2.2.2.1, q.2.2.2.2.2.2.2.1, q.2.2.2.2.2.2.2.2)
abbrev Nm.to_levels (q : Nm) (x : Nat → Nat) : Nm := (q.1, q.2.1, x, q.2.2.2.1, q.2.2.2.2.1, q.2.2.2.2.2.1, q.2.2.2.2.2.2.1, q.2.2.2.2.2.2.2.1, q.2.2.2.2.2.2.2.2)
abbrev Nm.to_numbers (q : Nm) (x : Nat → Nat) : Nm := (q.1, q.2.1, q.2.2.1, x, q.2.2.2.2.1, q.2.2.2.2.2.1, q.2.2.2.2.2.2.1, q.2.2.2.2.2.2.2.1, q.2.2.2.2.2.2.2.2)
abbrev Nm.to_slots (q : Nm) (x : Nat → Nat) : Nm := (q.1, q.2.1, q.2.2.1, q.2.2.2.1, x, q.2.2.2.2.2.1, q.2.2.2.2.2.2.1, q.2.2.2.2.2.2.2.1, q.2.2.2.2.2.2.2.2)
abbrev Nm.to_known (q : Nm) (x : Nat) : Nm := (q.1, q.2.1, q.2.2.1, q.2.2.2.1, q.2.2.2.2.1, x, q.2.2.2.2.2.2.1, q.2.2.2.2.2.2.2.1, q.2.2.2.2.2.2.2.2)
abbrev Nm.to_level (q : Nm) (x : Nat) : Nm := (q.1, q.2.1, q.2.2.1, q.2.2.2.1, q.2.2.2.2.1, q.2.2.2.2.2.1, x, q.2.2.2.2.2.2.2.1, q.2.2.2.2.2.2.2.2)
abbrev Nm.to_variables (q : Nm) (x : Nat) : Nm := (q.1, q.2.1, q.2.2.1, q.2.2.2.1, q.2.2.2.2.1, q.2.2.2.2.2.1, q.2.2.2.2.2.2.1, x, q.2.2.2.2.2.2.2.2)
abbrev Nm.to_procedures (q : Nm) (x : Nat) : Nm := (q.1, q.2.1, q.2.2.1, q.2.2.2.1, q.2.2.2.2.1, q.2.2.2.2.2.1, q.2.2.2.2.2.2.1, q.2.2.2.2.2.2.2.1, x)
abbrev Co.to_operations (q : Co) (x : Nat → Nat) : Co := (x, q.2.1, q.2.2.1, q.2.2.2.1, q.2.2.2.2.1, q.2.2.2.2.2.1, q.2.2.2.2.2.2.1, q.2.2.2.2.2.2.2)
abbrev Co.to_firsts (q : Co) (x : Nat → Nat) : Co := (q.1, x, q.2.2.1, q.2.2.2.1, q.2.2.2.2.1, q.2.2.2.2.2.1, q.2.2.2.2.2.2.1, q.2.2.2.2.2.2.2)
abbrev Co.to_seconds (q : Co) (x : Nat → Nat) : Co := (q.1, q.2.1, x, q.2.2.2.1, q.2.2.2.2.1, q.2.2.2.2.2.1, q.2.2.2.2.2.2.1, q.2.2.2.2.2.2.2)
abbrev Co.to_entries (q : Co) (x : Nat → Nat) : Co := (q.1, q.2.1, q.2.2.1, x, q.2.2.2.2.1, q.2.2.2.2.2.1, q.2.2.2.2.2.2.1, q.2.2.2.2.2.2.2)
abbrev Co.to_parameters (q : Co) (x : Nat → Nat) : Co := (q.1, q.2.1, q.2.2.1, q.2.2.2.1, x, q.2.2.2.2.2.1, q.2.2.2.2.2.2.1, q.2.2.2.2.2.2.2)
abbrev Co.to_references (q : Co) (x : Nat → Nat) : Co := (q.1, q.2.1, q.2.2.1, q.2.2.2.1, q.2.2.2.2.1, x, q.2.2.2.2.2.2.1, q.2.2.2.2.2.2.2)
abbrev Co.to_size (q : Co) (x : Nat) : Co := (q.1, q.2.1, q.2.2.1, q.2.2.2.1, q.2.2.2.2.1, q.2.2.2.2.2.1, x, q.2.2.2.2.2.2.2)
abbrev Co.to_start (q : Co) (x : Nat) : Co := (q.1, q.2.1, q.2.2.1, q.2.2.2.1, q.2.2.2.2.1, q.2.2.2.2.2.1, q.2.2.2.2.2.2.1, x)
abbrev Mc.to_cells (q : Mc) (x : Nat → Int32) : Mc := (x, q.2.1, q.2.2.1, q.2.2.2.1, q.2.2.2.2.1, q.2.2.2.2.2.1, q.2.2.2.2.2.2.1, q.2.2.2.2.2.2.2.1, q.2.2.2.2.2.2.2.2.1, q.2.2.2.2.2.2.2.2.2.1, q.2.2.2.2.2.2.2.2.2.2.1, q.2.2.2.2.2.2.2.2.2.2.2)
abbrev Mc.to_outerFrames (q : Mc) (x : Nat → Nat) : Mc := (q.1, x, q.2.2.1, q.2.2.2.1, q.2.2.2.2.1, q.2.2.2.2.2.1, q.2.2.2.2.2.2.1, q.2.2.2.2.2.2.2.1, q.2.2.2.2.2.2.2.2.1, q.2.2.2.2.2.2.2.2.2.1, q.2.2.2.2.2.2.2.2.2.2.1, q.2.2.2.2.2.2.2.2.2.2.2)
abbrev Mc.to_returns (q : Mc) (x : Nat → Nat) : Mc := (q.1, q.2.1, x, q.2.2.2.1, q.2.2.2.2.1, q.2.2.2.2.2.1, q.2.2.2.2.2.2.1, q.2.2.2.2.2.2.2.1, q.2.2.2.2.2.2.2.2.1, q.2.2.2.2.2.2.2.2.2.1, q.2.2.2.2.2.2.2.2.2.2.1, q.2.2.2.2.2.2.2.2.2.2.2)
abbrev Mc.to_stack (q : Mc) (x : Nat → Int32) : Mc := (q.1, q.2.1, q.2.2.1, x, q.2.2.2.2.1, q.2.2.2.2.2.1, q.2.2.2.2.2.2.1, q.2.2.2.2.2.2.2.1, q.2.2.2.2.2.2.2.2.1, q.2.2.2.2.2.2.2.2.2.1, q.2.2.2.2.2.2.2.2.2.2.1, q.2.2.2.2.2.2.2.2.2.2.2)
abbrev Mc.to_top (q : Mc) (x : Nat) : Mc := (q.1, q.2.1, q.2.2.1, q.2.2.2.1, x, q.2.2.2.2.2.1, q.2.2.2.2.2.2.1, q.2.2.2.2.2.2.2.1, q.2.2.2.2.2.2.2.2.1, q.2.2.2.2.2.2.2.2.2.1, q.2.2.2.2.2.2.2.2.2.2.1, q.2.2.2.2.2.2.2.2.2.2.2)
abbrev Mc.to_depth (q : Mc) (x : Nat) : Mc := (q.1, q.2.1, q.2.2.1, q.2.2.2.1, q.2.2.2.2.1, x, q.2.2.2.2.2.2.1, q.2.2.2.2.2.2.2.1, q.2.2.2.2.2.2.2.2.1, q.2.2.2.2.2.2.2.2.2.1, q.2.2.2.2.2.2.2.2.2.2.1, q.2.2.2.2.2.2.2.2.2.2.2)
abbrev Mc.to_next (q : Mc) (x : Nat) : Mc := (q.1, q.2.1, q.2.2.1, q.2.2.2.1, q.2.2.2.2.1, q.2.2.2.2.2.1, x, q.2.2.2.2.2.2.2.1, q.2.2.2.2.2.2.2.2.1, q.2.2.2.2.2.2.2.2.2.1, q.2.2.2.2.2.2.2.2.2.2.1, q.2.2.2.2.2.2.2.2.2.2.2)
abbrev Mc.to_values (q : Mc) (x : Nat → Int32) : Mc := (q.1, q.2.1, q.2.2.1, q.2.2.2.1, q.2.2.2.2.1, q.2.2.2.2.2.1, q.2.2.2.2.2.2.1, x, q.2.2.2.2.2.2.2.2.1, q.2.2.2.2.2.2.2.2.2.1, q.2.2.2.2.2.2.2.2.2.2.1, q.2.2.2.2.2.2.2.2.2.2.2)
abbrev Mc.to_written (q : Mc) (x : Nat) : Mc := (q.1, q.2.1, q.2.2.1, q.2.2.2.1, q.2.2.2.2.1, q.2.2.2.2.2.1, q.2.2.2.2.2.2.1, q.2.2.2.2.2.2.2.1, x, q.2.2.2.2.2.2.2.2.2.1, q.2.2.2.2.2.2.2.2.2.2.1, q.2.2.2.2.2.2.2.2.2.2.2)
abbrev Mc.to_lost (q : Mc) (x : Nat) : Mc := (q.1, q.2.1, q.2.2.1, q.2.2.2.1, q.2.2.2.2.1, q.2.2.2.2.2.1, q.2.2.2.2.2.2.1, q.2.2.2.2.2.2.2.1, q.2.2.2.2.2.2.2.2.1, x, q.2.2.2.2.2.2.2.2.2.2.1, q.2.2.2.2.2.2.2.2.2.2.2)
abbrev Mc.to_steps (q : Mc) (x : Nat) : Mc := (q.1, q.2.1, q.2.2.1, q.2.2.2.1, q.2.2.2.2.1, q.2.2.2.2.2.1, q.2.2.2.2.2.2.1, q.2.2.2.2.2.2.2.1, q.2.2.2.2.2.2.2.2.1, q.2.2.2.2.2.2.2.2.2.1, x, q.2.2.2.2.2.2.2.2.2.2.2)
abbrev Mc.to_deepest (q : Mc) (x : Nat) : Mc := (q.1, q.2.1, q.2.2.1, q.2.2.2.1, q.2.2.2.2.1, q.2.2.2.2.2.1, q.2.2.2.2.2.2.1, q.2.2.2.2.2.2.2.1, q.2.2.2.2.2.2.2.2.1, q.2.2.2.2.2.2.2.2.2.1, q.2.2.2.2.2.2.2.2.2.2.1, x)
abbrev Pm.to_text (q : Pm) (x : Nat → Nat) : Pm := (x, q.2.1, q.2.2)
abbrev Pm.to_length (q : Pm) (x : Nat) : Pm := (q.1, x, q.2.2)
abbrev Pm.to_hasProgram (q : Pm) (x : Bool) : Pm := (q.1, q.2.1, x)
def cw (z : Zt) (a u w : Nat → Nat) (P : Pm) (F : Int32) (T : Tk) (N : Nm) (C D : Co) (M : Mc) : va_W := [
  (a 0, .inr (5, [.ref (a 1), .int (nI P.2.1), .ref (a 2), .ref (a 13), .int (bI P.2.2)])),
  (a 1, .inl (z.2.1.2.2.1, 300, .inl (fun j => nI (P.1 j)))),
  (a 2, .inr (1, [.ref (a 3), .ref (a 7), .ref (u 0), .int F])),
  (a 3, .inr (4, [.ref (a 4), .ref (a 5), .ref (a 6), .ref T.2.2.2.1, .int (nI T.2.2.2.2.1), .int (nI T.2.2.2.2.2.1), .int (nI T.2.2.2.2.2.2)])),
  (a 4, .inl (z.2.1.2.2.2, 151, .inr (.inr (.inr (.inr (fun j => (T.1 j).map (ek z))))))),
  (a 5, .inl (z.2.1.1, 151, .inl (fun j => nI (T.2.1 j)))),
  (a 6, .inl (z.2.1.2.1, 151, .inr (.inl T.2.2.1))),
  (a 7, .inr (3, [.ref (a 8), .ref (a 9), .ref (a 10), .ref (a 11), .ref (a 12), .int (nI N.2.2.2.2.2.1), .int (nI N.2.2.2.2.2.2.1), .int (nI N.2.2.2.2.2.2.2.1), .int (nI N.2.2.2.2.2.2.2.2)])),
  (a 8, .inl (z.2.1.2.1, 18, .inr (.inl N.1))),
  (a 9, .inl (z.2.1.1, 18, .inl (fun j => nI (N.2.1 j)))),
  (a 10, .inl (z.2.1.1, 18, .inl (fun j => nI (N.2.2.1 j)))),
  (a 11, .inl (z.2.1.1, 18, .inl (fun j => nI (N.2.2.2.1 j)))),
  (a 12, .inl (z.2.1.1, 4, .inl (fun j => nI (N.2.2.2.2.1 j)))),
  (a 13, .inr (2, [.ref (w 0), .ref (a 14), .ref (a 15), .ref (a 16), .ref (a 17), .int (nI M.2.2.2.2.1), .int (nI M.2.2.2.2.2.1), .int (nI M.2.2.2.2.2.2.1), .ref (a 18), .int (nI M.2.2.2.2.2.2.2.2.1), .int (nI M.2.2.2.2.2.2.2.2.2.1), .int (nI M.2.2.2.2.2.2.2.2.2.2.1), .int (nI M.2.2.2.2.2.2.2.2.2.2.2)])),
  (a 14, .inl (z.2.1.1, 132, .inl M.1)),
  (a 15, .inl (z.2.1.1, 11, .inl (fun j => nI (M.2.1 j)))),
  (a 16, .inl (z.2.1.1, 11, .inl (fun j => nI (M.2.2.1 j)))),
  (a 17, .inl (z.2.1.1, 21, .inl M.2.2.2.1)),
  (a 18, .inl (z.2.1.1, 32, .inl M.2.2.2.2.2.2.2.1)),
  (u 0, .inr (0, [.ref (u 1), .ref (u 2), .ref (u 3), .ref (u 4), .ref (u 5), .ref (u 6), .int (nI C.2.2.2.2.2.2.1), .int (nI C.2.2.2.2.2.2.2)])),
  (u 1, .inl (z.2.1.1, 300, .inl (fun j => nI (C.1 j)))),
  (u 2, .inl (z.2.1.1, 300, .inl (fun j => nI (C.2.1 j)))),
  (u 3, .inl (z.2.1.1, 300, .inl (fun j => nI (C.2.2.1 j)))),
  (u 4, .inl (z.2.1.1, 6, .inl (fun j => nI (C.2.2.2.1 j)))),
  (u 5, .inl (z.2.1.1, 6, .inl (fun j => nI (C.2.2.2.2.1 j)))),
  (u 6, .inl (z.2.1.1, 6, .inl (fun j => nI (C.2.2.2.2.2.1 j)))),
  (w 0, .inr (0, [.ref (w 1), .ref (w 2), .ref (w 3), .ref (w 4), .ref (w 5), .ref (w 6), .int (nI D.2.2.2.2.2.2.1), .int (nI D.2.2.2.2.2.2.2)])),
  (w 1, .inl (z.2.1.1, 300, .inl (fun j => nI (D.1 j)))),
  (w 2, .inl (z.2.1.1, 300, .inl (fun j => nI (D.2.1 j)))),
  (w 3, .inl (z.2.1.1, 300, .inl (fun j => nI (D.2.2.1 j)))),
  (w 4, .inl (z.2.1.1, 6, .inl (fun j => nI (D.2.2.2.1 j)))),
  (w 5, .inl (z.2.1.1, 6, .inl (fun j => nI (D.2.2.2.2.1 j)))),
  (w 6, .inl (z.2.1.1, 6, .inl (fun j => nI (D.2.2.2.2.2.1 j))))]
section VW
variable {p : Program} {l : Launch} {e : Env} {R : Room} {s : State} {m : MethodId} {args : Array Value} {below : List Frame} {meth : Method} {c : Code} {z : Zt} {nL cells slots : Nat} {Q : State → Prop} {pc : Nat} {lv : List (Nat × Value)} {sk : List Value}
variable {cc : ByteArray} {ret : Option FieldType} {own : String} {a u w : Nat → Nat} {P : Pm} {F : Int32} {T : Tk} {N : Nm} {C D : Co} {M : Mc}
theorem g_PM_text (X : Cx p s m args meth c (Gz z) cc nL ret own) {i : Nat} (hw : Cond.fieldLink own i "PascalMachine" "text" "[C" ∈ gt) (hd : decode cc pc = .ok (.getfield i, 3)) (kk : V p l e R s m args below meth c (Gz z) nL cells slots Q (cw z a u w P F T N C D M) (pc + 3) lv (.ref (a 1) :: sk)) : V p l e R s m args below meth c (Gz z) nL cells slots Q (cw z a u w P F T N C D M) pc lv (.ref (a 0) :: sk) := V.get X in_PM 0 rfl rfl 0 (by decide) hw rfl hd kk
theorem g_PM_length (X : Cx p s m args meth c (Gz z) cc nL ret own) {i : Nat} (hw : Cond.fieldLink own i "PascalMachine" "length" "I" ∈ gt) (hd : decode cc pc = .ok (.getfield i, 3)) (kk : V p l e R s m args below meth c (Gz z) nL cells slots Q (cw z a u w P F T N C D M) (pc + 3) lv (.int (nI P.2.1) :: sk)) : V p l e R s m args below meth c (Gz z) nL cells slots Q (cw z a u w P F T N C D M) pc lv (.ref (a 0) :: sk) := V.get X in_PM 0 rfl rfl 1 (by decide) hw rfl hd kk
theorem p_PM_length (X : Cx p s m args meth c (Gz z) cc nL ret own) {i : Nat} {x : Nat} (hw : Cond.fieldLink own i "PascalMachine" "length" "I" ∈ gt) (hd : decode cc pc = .ok (.putfield i, 3)) (kk : V p l e R s m args below meth c (Gz z) nL cells slots Q (cw z a u w (P.1, x, P.2.2) F T N C D M) (pc + 3) lv sk) : V p l e R s m args below meth c (Gz z) nL cells slots Q (cw z a u w P F T N C D M) pc lv (.int (nI x) :: .ref (a 0) :: sk) := V.put (ty := .int) X in_PM t_PM t_PM_ok n_PM 0 rfl rfl 1 (by decide) hw rfl (by decide +kernel) (vp_nar_int _) rfl (Nat.le_of_ble_eq_true rfl) rfl hd kk
theorem g_PM_compiler (X : Cx p s m args meth c (Gz z) cc nL ret own) {i : Nat} (hw : Cond.fieldLink own i "PascalMachine" "compiler" "LPascalMachine$Compiler;" ∈ gt) (hd : decode cc pc = .ok (.getfield i, 3)) (kk : V p l e R s m args below meth c (Gz z) nL cells slots Q (cw z a u w P F T N C D M) (pc + 3) lv (.ref (a 2) :: sk)) : V p l e R s m args below meth c (Gz z) nL cells slots Q (cw z a u w P F T N C D M) pc lv (.ref (a 0) :: sk) := V.get X in_PM 0 rfl rfl 2 (by decide) hw rfl hd kk
theorem g_PM_machine (X : Cx p s m args meth c (Gz z) cc nL ret own) {i : Nat} (hw : Cond.fieldLink own i "PascalMachine" "machine" "LPascalMachine$Machine;" ∈ gt) (hd : decode cc pc = .ok (.getfield i, 3)) (kk : V p l e R s m args below meth c (Gz z) nL cells slots Q (cw z a u w P F T N C D M) (pc + 3) lv (.ref (a 13) :: sk)) : V p l e R s m args below meth c (Gz z) nL cells slots Q (cw z a u w P F T N C D M) pc lv (.ref (a 0) :: sk) := V.get X in_PM 0 rfl rfl 3 (by decide) hw rfl hd kk
theorem g_PM_hasProgram (X : Cx p s m args meth c (Gz z) cc nL ret own) {i : Nat} (hw : Cond.fieldLink own i "PascalMachine" "hasProgram" "Z" ∈ gt) (hd : decode cc pc = .ok (.getfield i, 3)) (kk : V p l e R s m args below meth c (Gz z) nL cells slots Q (cw z a u w P F T N C D M) (pc + 3) lv (.int (bI P.2.2) :: sk)) : V p l e R s m args below meth c (Gz z) nL cells slots Q (cw z a u w P F T N C D M) pc lv (.ref (a 0) :: sk) := V.get X in_PM 0 rfl rfl 4 (by decide) hw rfl hd kk
theorem p_PM_hasProgram (X : Cx p s m args meth c (Gz z) cc nL ret own) {i : Nat} {x : Bool} (hw : Cond.fieldLink own i "PascalMachine" "hasProgram" "Z" ∈ gt) (hd : decode cc pc = .ok (.putfield i, 3)) (kk : V p l e R s m args below meth c (Gz z) nL cells slots Q (cw z a u w (P.1, P.2.1, x) F T N C D M) (pc + 3) lv sk) : V p l e R s m args below meth c (Gz z) nL cells slots Q (cw z a u w P F T N C D M) pc lv (.int (bI x) :: .ref (a 0) :: sk) := V.put (ty := .boolean) X in_PM t_PM t_PM_ok n_PM 0 rfl rfl 4 (by decide) hw rfl (by decide +kernel) (by cases x <;> decide +kernel) (by cases x <;> decide +kernel) (Nat.le_of_ble_eq_true rfl) rfl hd kk
theorem g_Cp_tokens (X : Cx p s m args meth c (Gz z) cc nL ret own) {i : Nat} (hw : Cond.fieldLink own i "PascalMachine$Compiler" "tokens" "LPascalMachine$Tokens;" ∈ gt) (hd : decode cc pc = .ok (.getfield i, 3)) (kk : V p l e R s m args below meth c (Gz z) nL cells slots Q (cw z a u w P F T N C D M) (pc + 3) lv (.ref (a 3) :: sk)) : V p l e R s m args below meth c (Gz z) nL cells slots Q (cw z a u w P F T N C D M) pc lv (.ref (a 2) :: sk) := V.get X in_Cp 2 rfl rfl 0 (by decide) hw rfl hd kk
theorem g_Cp_names (X : Cx p s m args meth c (Gz z) cc nL ret own) {i : Nat} (hw : Cond.fieldLink own i "PascalMachine$Compiler" "names" "LPascalMachine$Names;" ∈ gt) (hd : decode cc pc = .ok (.getfield i, 3)) (kk : V p l e R s m args below meth c (Gz z) nL cells slots Q (cw z a u w P F T N C D M) (pc + 3) lv (.ref (a 7) :: sk)) : V p l e R s m args below meth c (Gz z) nL cells slots Q (cw z a u w P F T N C D M) pc lv (.ref (a 2) :: sk) := V.get X in_Cp 2 rfl rfl 1 (by decide) hw rfl hd kk
theorem g_Cp_code (X : Cx p s m args meth c (Gz z) cc nL ret own) {i : Nat} (hw : Cond.fieldLink own i "PascalMachine$Compiler" "code" "LPascalMachine$Code;" ∈ gt) (hd : decode cc pc = .ok (.getfield i, 3)) (kk : V p l e R s m args below meth c (Gz z) nL cells slots Q (cw z a u w P F T N C D M) (pc + 3) lv (.ref (u 0) :: sk)) : V p l e R s m args below meth c (Gz z) nL cells slots Q (cw z a u w P F T N C D M) pc lv (.ref (a 2) :: sk) := V.get X in_Cp 2 rfl rfl 2 (by decide) hw rfl hd kk
theorem g_Cp_faultPlace (X : Cx p s m args meth c (Gz z) cc nL ret own) {i : Nat} (hw : Cond.fieldLink own i "PascalMachine$Compiler" "faultPlace" "I" ∈ gt) (hd : decode cc pc = .ok (.getfield i, 3)) (kk : V p l e R s m args below meth c (Gz z) nL cells slots Q (cw z a u w P F T N C D M) (pc + 3) lv (.int F :: sk)) : V p l e R s m args below meth c (Gz z) nL cells slots Q (cw z a u w P F T N C D M) pc lv (.ref (a 2) :: sk) := V.get X in_Cp 2 rfl rfl 3 (by decide) hw rfl hd kk
theorem p_Cp_faultPlace (X : Cx p s m args meth c (Gz z) cc nL ret own) {i : Nat} {x : Int32} (hw : Cond.fieldLink own i "PascalMachine$Compiler" "faultPlace" "I" ∈ gt) (hd : decode cc pc = .ok (.putfield i, 3)) (kk : V p l e R s m args below meth c (Gz z) nL cells slots Q (cw z a u w P x T N C D M) (pc + 3) lv sk) : V p l e R s m args below meth c (Gz z) nL cells slots Q (cw z a u w P F T N C D M) pc lv (.int x :: .ref (a 2) :: sk) := V.put (ty := .int) X in_Cp t_Cp t_Cp_ok n_Cp 2 rfl rfl 3 (by decide) hw rfl (by decide +kernel) (vp_nar_int _) rfl (Nat.le_of_ble_eq_true rfl) rfl hd kk
theorem g_Tk_kinds (X : Cx p s m args meth c (Gz z) cc nL ret own) {i : Nat} (hw : Cond.fieldLink own i "PascalMachine$Tokens" "kinds" "[LPascalMachine$Kind;" ∈ gt) (hd : decode cc pc = .ok (.getfield i, 3)) (kk : V p l e R s m args below meth c (Gz z) nL cells slots Q (cw z a u w P F T N C D M) (pc + 3) lv (.ref (a 4) :: sk)) : V p l e R s m args below meth c (Gz z) nL cells slots Q (cw z a u w P F T N C D M) pc lv (.ref (a 3) :: sk) := V.get X in_Tk 3 rfl rfl 0 (by decide) hw rfl hd kk
theorem g_Tk_places (X : Cx p s m args meth c (Gz z) cc nL ret own) {i : Nat} (hw : Cond.fieldLink own i "PascalMachine$Tokens" "places" "[I" ∈ gt) (hd : decode cc pc = .ok (.getfield i, 3)) (kk : V p l e R s m args below meth c (Gz z) nL cells slots Q (cw z a u w P F T N C D M) (pc + 3) lv (.ref (a 5) :: sk)) : V p l e R s m args below meth c (Gz z) nL cells slots Q (cw z a u w P F T N C D M) pc lv (.ref (a 3) :: sk) := V.get X in_Tk 3 rfl rfl 1 (by decide) hw rfl hd kk
theorem g_Tk_contents (X : Cx p s m args meth c (Gz z) cc nL ret own) {i : Nat} (hw : Cond.fieldLink own i "PascalMachine$Tokens" "contents" "[J" ∈ gt) (hd : decode cc pc = .ok (.getfield i, 3)) (kk : V p l e R s m args below meth c (Gz z) nL cells slots Q (cw z a u w P F T N C D M) (pc + 3) lv (.ref (a 6) :: sk)) : V p l e R s m args below meth c (Gz z) nL cells slots Q (cw z a u w P F T N C D M) pc lv (.ref (a 3) :: sk) := V.get X in_Tk 3 rfl rfl 2 (by decide) hw rfl hd kk
theorem g_Tk_text (X : Cx p s m args meth c (Gz z) cc nL ret own) {i : Nat} (hw : Cond.fieldLink own i "PascalMachine$Tokens" "text" "[C" ∈ gt) (hd : decode cc pc = .ok (.getfield i, 3)) (kk : V p l e R s m args below meth c (Gz z) nL cells slots Q (cw z a u w P F T N C D M) (pc + 3) lv (.ref T.2.2.2.1 :: sk)) : V p l e R s m args below meth c (Gz z) nL cells slots Q (cw z a u w P F T N C D M) pc lv (.ref (a 3) :: sk) := V.get X in_Tk 3 rfl rfl 3 (by decide) hw rfl hd kk
theorem p_Tk_text (X : Cx p s m args meth c (Gz z) cc nL ret own) {i : Nat} {x : Nat} (hw : Cond.fieldLink own i "PascalMachine$Tokens" "text" "[C" ∈ gt) (hd : decode cc pc = .ok (.putfield i, 3)) (kk : V p l e R s m args below meth c (Gz z) nL cells slots Q (cw z a u w P F (T.1, T.2.1, T.2.2.1, x, T.2.2.2.2.1, T.2.2.2.2.2.1, T.2.2.2.2.2.2) N C D M) (pc + 3) lv sk) : V p l e R s m args below meth c (Gz z) nL cells slots Q (cw z a u w P F T N C D M) pc lv (.ref x :: .ref (a 3) :: sk) := V.put (ty := .array .char) X in_Tk t_Tk t_Tk_ok n_Tk 3 rfl rfl 3 (by decide) hw rfl (by decide +kernel) rfl rfl (Nat.le_of_ble_eq_true rfl) rfl hd kk
theorem g_Tk_length (X : Cx p s m args meth c (Gz z) cc nL ret own) {i : Nat} (hw : Cond.fieldLink own i "PascalMachine$Tokens" "length" "I" ∈ gt) (hd : decode cc pc = .ok (.getfield i, 3)) (kk : V p l e R s m args below meth c (Gz z) nL cells slots Q (cw z a u w P F T N C D M) (pc + 3) lv (.int (nI T.2.2.2.2.1) :: sk)) : V p l e R s m args below meth c (Gz z) nL cells slots Q (cw z a u w P F T N C D M) pc lv (.ref (a 3) :: sk) := V.get X in_Tk 3 rfl rfl 4 (by decide) hw rfl hd kk
theorem p_Tk_length (X : Cx p s m args meth c (Gz z) cc nL ret own) {i : Nat} {x : Nat} (hw : Cond.fieldLink own i "PascalMachine$Tokens" "length" "I" ∈ gt) (hd : decode cc pc = .ok (.putfield i, 3)) (kk : V p l e R s m args below meth c (Gz z) nL cells slots Q (cw z a u w P F (T.1, T.2.1, T.2.2.1, T.2.2.2.1, x, T.2.2.2.2.2.1, T.2.2.2.2.2.2) N C D M) (pc + 3) lv sk) : V p l e R s m args below meth c (Gz z) nL cells slots Q (cw z a u w P F T N C D M) pc lv (.int (nI x) :: .ref (a 3) :: sk) := V.put (ty := .int) X in_Tk t_Tk t_Tk_ok n_Tk 3 rfl rfl 4 (by decide) hw rfl (by decide +kernel) (vp_nar_int _) rfl (Nat.le_of_ble_eq_true rfl) rfl hd kk
theorem g_Tk_end (X : Cx p s m args meth c (Gz z) cc nL ret own) {i : Nat} (hw : Cond.fieldLink own i "PascalMachine$Tokens" "end" "I" ∈ gt) (hd : decode cc pc = .ok (.getfield i, 3)) (kk : V p l e R s m args below meth c (Gz z) nL cells slots Q (cw z a u w P F T N C D M) (pc + 3) lv (.int (nI T.2.2.2.2.2.1) :: sk)) : V p l e R s m args below meth c (Gz z) nL cells slots Q (cw z a u w P F T N C D M) pc lv (.ref (a 3) :: sk) := V.get X in_Tk 3 rfl rfl 5 (by decide) hw rfl hd kk
theorem p_Tk_end (X : Cx p s m args meth c (Gz z) cc nL ret own) {i : Nat} {x : Nat} (hw : Cond.fieldLink own i "PascalMachine$Tokens" "end" "I" ∈ gt) (hd : decode cc pc = .ok (.putfield i, 3)) (kk : V p l e R s m args below meth c (Gz z) nL cells slots Q (cw z a u w P F (T.1, T.2.1, T.2.2.1, T.2.2.2.1, T.2.2.2.2.1, x, T.2.2.2.2.2.2) N C D M) (pc + 3) lv sk) : V p l e R s m args below meth c (Gz z) nL cells slots Q (cw z a u w P F T N C D M) pc lv (.int (nI x) :: .ref (a 3) :: sk) := V.put (ty := .int) X in_Tk t_Tk t_Tk_ok n_Tk 3 rfl rfl 5 (by decide) hw rfl (by decide +kernel) (vp_nar_int _) rfl (Nat.le_of_ble_eq_true rfl) rfl hd kk
theorem g_Tk_current (X : Cx p s m args meth c (Gz z) cc nL ret own) {i : Nat} (hw : Cond.fieldLink own i "PascalMachine$Tokens" "current" "I" ∈ gt) (hd : decode cc pc = .ok (.getfield i, 3)) (kk : V p l e R s m args below meth c (Gz z) nL cells slots Q (cw z a u w P F T N C D M) (pc + 3) lv (.int (nI T.2.2.2.2.2.2) :: sk)) : V p l e R s m args below meth c (Gz z) nL cells slots Q (cw z a u w P F T N C D M) pc lv (.ref (a 3) :: sk) := V.get X in_Tk 3 rfl rfl 6 (by decide) hw rfl hd kk
theorem p_Tk_current (X : Cx p s m args meth c (Gz z) cc nL ret own) {i : Nat} {x : Nat} (hw : Cond.fieldLink own i "PascalMachine$Tokens" "current" "I" ∈ gt) (hd : decode cc pc = .ok (.putfield i, 3)) (kk : V p l e R s m args below meth c (Gz z) nL cells slots Q (cw z a u w P F (T.1, T.2.1, T.2.2.1, T.2.2.2.1, T.2.2.2.2.1, T.2.2.2.2.2.1, x) N C D M) (pc + 3) lv sk) : V p l e R s m args below meth c (Gz z) nL cells slots Q (cw z a u w P F T N C D M) pc lv (.int (nI x) :: .ref (a 3) :: sk) := V.put (ty := .int) X in_Tk t_Tk t_Tk_ok n_Tk 3 rfl rfl 6 (by decide) hw rfl (by decide +kernel) (vp_nar_int _) rfl (Nat.le_of_ble_eq_true rfl) rfl hd kk
theorem g_Nm_words (X : Cx p s m args meth c (Gz z) cc nL ret own) {i : Nat} (hw : Cond.fieldLink own i "PascalMachine$Names" "words" "[J" ∈ gt) (hd : decode cc pc = .ok (.getfield i, 3)) (kk : V p l e R s m args below meth c (Gz z) nL cells slots Q (cw z a u w P F T N C D M) (pc + 3) lv (.ref (a 8) :: sk)) : V p l e R s m args below meth c (Gz z) nL cells slots Q (cw z a u w P F T N C D M) pc lv (.ref (a 7) :: sk) := V.get X in_Nm 7 rfl rfl 0 (by decide) hw rfl hd kk
theorem g_Nm_kinds (X : Cx p s m args meth c (Gz z) cc nL ret own) {i : Nat} (hw : Cond.fieldLink own i "PascalMachine$Names" "kinds" "[I" ∈ gt) (hd : decode cc pc = .ok (.getfield i, 3)) (kk : V p l e R s m args below meth c (Gz z) nL cells slots Q (cw z a u w P F T N C D M) (pc + 3) lv (.ref (a 9) :: sk)) : V p l e R s m args below meth c (Gz z) nL cells slots Q (cw z a u w P F T N C D M) pc lv (.ref (a 7) :: sk) := V.get X in_Nm 7 rfl rfl 1 (by decide) hw rfl hd kk
theorem g_Nm_levels (X : Cx p s m args meth c (Gz z) cc nL ret own) {i : Nat} (hw : Cond.fieldLink own i "PascalMachine$Names" "levels" "[I" ∈ gt) (hd : decode cc pc = .ok (.getfield i, 3)) (kk : V p l e R s m args below meth c (Gz z) nL cells slots Q (cw z a u w P F T N C D M) (pc + 3) lv (.ref (a 10) :: sk)) : V p l e R s m args below meth c (Gz z) nL cells slots Q (cw z a u w P F T N C D M) pc lv (.ref (a 7) :: sk) := V.get X in_Nm 7 rfl rfl 2 (by decide) hw rfl hd kk
theorem g_Nm_numbers (X : Cx p s m args meth c (Gz z) cc nL ret own) {i : Nat} (hw : Cond.fieldLink own i "PascalMachine$Names" "numbers" "[I" ∈ gt) (hd : decode cc pc = .ok (.getfield i, 3)) (kk : V p l e R s m args below meth c (Gz z) nL cells slots Q (cw z a u w P F T N C D M) (pc + 3) lv (.ref (a 11) :: sk)) : V p l e R s m args below meth c (Gz z) nL cells slots Q (cw z a u w P F T N C D M) pc lv (.ref (a 7) :: sk) := V.get X in_Nm 7 rfl rfl 3 (by decide) hw rfl hd kk
theorem g_Nm_slots (X : Cx p s m args meth c (Gz z) cc nL ret own) {i : Nat} (hw : Cond.fieldLink own i "PascalMachine$Names" "slots" "[I" ∈ gt) (hd : decode cc pc = .ok (.getfield i, 3)) (kk : V p l e R s m args below meth c (Gz z) nL cells slots Q (cw z a u w P F T N C D M) (pc + 3) lv (.ref (a 12) :: sk)) : V p l e R s m args below meth c (Gz z) nL cells slots Q (cw z a u w P F T N C D M) pc lv (.ref (a 7) :: sk) := V.get X in_Nm 7 rfl rfl 4 (by decide) hw rfl hd kk
theorem g_Nm_known (X : Cx p s m args meth c (Gz z) cc nL ret own) {i : Nat} (hw : Cond.fieldLink own i "PascalMachine$Names" "known" "I" ∈ gt) (hd : decode cc pc = .ok (.getfield i, 3)) (kk : V p l e R s m args below meth c (Gz z) nL cells slots Q (cw z a u w P F T N C D M) (pc + 3) lv (.int (nI N.2.2.2.2.2.1) :: sk)) : V p l e R s m args below meth c (Gz z) nL cells slots Q (cw z a u w P F T N C D M) pc lv (.ref (a 7) :: sk) := V.get X in_Nm 7 rfl rfl 5 (by decide) hw rfl hd kk
theorem p_Nm_known (X : Cx p s m args meth c (Gz z) cc nL ret own) {i : Nat} {x : Nat} (hw : Cond.fieldLink own i "PascalMachine$Names" "known" "I" ∈ gt) (hd : decode cc pc = .ok (.putfield i, 3)) (kk : V p l e R s m args below meth c (Gz z) nL cells slots Q (cw z a u w P F T (N.1, N.2.1, N.2.2.1, N.2.2.2.1, N.2.2.2.2.1, x, N.2.2.2.2.2.2.1, N.2.2.2.2.2.2.2.1, N.2.2.2.2.2.2.2.2) C D M) (pc + 3) lv sk) : V p l e R s m args below meth c (Gz z) nL cells slots Q (cw z a u w P F T N C D M) pc lv (.int (nI x) :: .ref (a 7) :: sk) := V.put (ty := .int) X in_Nm t_Nm t_Nm_ok n_Nm 7 rfl rfl 5 (by decide) hw rfl (by decide +kernel) (vp_nar_int _) rfl (Nat.le_of_ble_eq_true rfl) rfl hd kk
theorem g_Nm_level (X : Cx p s m args meth c (Gz z) cc nL ret own) {i : Nat} (hw : Cond.fieldLink own i "PascalMachine$Names" "level" "I" ∈ gt) (hd : decode cc pc = .ok (.getfield i, 3)) (kk : V p l e R s m args below meth c (Gz z) nL cells slots Q (cw z a u w P F T N C D M) (pc + 3) lv (.int (nI N.2.2.2.2.2.2.1) :: sk)) : V p l e R s m args below meth c (Gz z) nL cells slots Q (cw z a u w P F T N C D M) pc lv (.ref (a 7) :: sk) := V.get X in_Nm 7 rfl rfl 6 (by decide) hw rfl hd kk
theorem p_Nm_level (X : Cx p s m args meth c (Gz z) cc nL ret own) {i : Nat} {x : Nat} (hw : Cond.fieldLink own i "PascalMachine$Names" "level" "I" ∈ gt) (hd : decode cc pc = .ok (.putfield i, 3)) (kk : V p l e R s m args below meth c (Gz z) nL cells slots Q (cw z a u w P F T (N.1, N.2.1, N.2.2.1, N.2.2.2.1, N.2.2.2.2.1, N.2.2.2.2.2.1, x, N.2.2.2.2.2.2.2.1, N.2.2.2.2.2.2.2.2) C D M) (pc + 3) lv sk) : V p l e R s m args below meth c (Gz z) nL cells slots Q (cw z a u w P F T N C D M) pc lv (.int (nI x) :: .ref (a 7) :: sk) := V.put (ty := .int) X in_Nm t_Nm t_Nm_ok n_Nm 7 rfl rfl 6 (by decide) hw rfl (by decide +kernel) (vp_nar_int _) rfl (Nat.le_of_ble_eq_true rfl) rfl hd kk
theorem g_Nm_variables (X : Cx p s m args meth c (Gz z) cc nL ret own) {i : Nat} (hw : Cond.fieldLink own i "PascalMachine$Names" "variables" "I" ∈ gt) (hd : decode cc pc = .ok (.getfield i, 3)) (kk : V p l e R s m args below meth c (Gz z) nL cells slots Q (cw z a u w P F T N C D M) (pc + 3) lv (.int (nI N.2.2.2.2.2.2.2.1) :: sk)) : V p l e R s m args below meth c (Gz z) nL cells slots Q (cw z a u w P F T N C D M) pc lv (.ref (a 7) :: sk) := V.get X in_Nm 7 rfl rfl 7 (by decide) hw rfl hd kk
theorem p_Nm_variables (X : Cx p s m args meth c (Gz z) cc nL ret own) {i : Nat} {x : Nat} (hw : Cond.fieldLink own i "PascalMachine$Names" "variables" "I" ∈ gt) (hd : decode cc pc = .ok (.putfield i, 3)) (kk : V p l e R s m args below meth c (Gz z) nL cells slots Q (cw z a u w P F T (N.1, N.2.1, N.2.2.1, N.2.2.2.1, N.2.2.2.2.1, N.2.2.2.2.2.1, N.2.2.2.2.2.2.1, x, N.2.2.2.2.2.2.2.2) C D M) (pc + 3) lv sk) : V p l e R s m args below meth c (Gz z) nL cells slots Q (cw z a u w P F T N C D M) pc lv (.int (nI x) :: .ref (a 7) :: sk) := V.put (ty := .int) X in_Nm t_Nm t_Nm_ok n_Nm 7 rfl rfl 7 (by decide) hw rfl (by decide +kernel) (vp_nar_int _) rfl (Nat.le_of_ble_eq_true rfl) rfl hd kk
theorem g_Nm_procedures (X : Cx p s m args meth c (Gz z) cc nL ret own) {i : Nat} (hw : Cond.fieldLink own i "PascalMachine$Names" "procedures" "I" ∈ gt) (hd : decode cc pc = .ok (.getfield i, 3)) (kk : V p l e R s m args below meth c (Gz z) nL cells slots Q (cw z a u w P F T N C D M) (pc + 3) lv (.int (nI N.2.2.2.2.2.2.2.2) :: sk)) : V p l e R s m args below meth c (Gz z) nL cells slots Q (cw z a u w P F T N C D M) pc lv (.ref (a 7) :: sk) := V.get X in_Nm 7 rfl rfl 8 (by decide) hw rfl hd kk
theorem p_Nm_procedures (X : Cx p s m args meth c (Gz z) cc nL ret own) {i : Nat} {x : Nat} (hw : Cond.fieldLink own i "PascalMachine$Names" "procedures" "I" ∈ gt) (hd : decode cc pc = .ok (.putfield i, 3)) (kk : V p l e R s m args below meth c (Gz z) nL cells slots Q (cw z a u w P F T (N.1, N.2.1, N.2.2.1, N.2.2.2.1, N.2.2.2.2.1, N.2.2.2.2.2.1, N.2.2.2.2.2.2.1, N.2.2.2.2.2.2.2.1, x) C D M) (pc + 3) lv sk) : V p l e R s m args below meth c (Gz z) nL cells slots Q (cw z a u w P F T N C D M) pc lv (.int (nI x) :: .ref (a 7) :: sk) := V.put (ty := .int) X in_Nm t_Nm t_Nm_ok n_Nm 7 rfl rfl 8 (by decide) hw rfl (by decide +kernel) (vp_nar_int _) rfl (Nat.le_of_ble_eq_true rfl) rfl hd kk
theorem g_Mc_program (X : Cx p s m args meth c (Gz z) cc nL ret own) {i : Nat} (hw : Cond.fieldLink own i "PascalMachine$Machine" "program" "LPascalMachine$Code;" ∈ gt) (hd : decode cc pc = .ok (.getfield i, 3)) (kk : V p l e R s m args below meth c (Gz z) nL cells slots Q (cw z a u w P F T N C D M) (pc + 3) lv (.ref (w 0) :: sk)) : V p l e R s m args below meth c (Gz z) nL cells slots Q (cw z a u w P F T N C D M) pc lv (.ref (a 13) :: sk) := V.get X in_Mc 13 rfl rfl 0 (by decide) hw rfl hd kk
theorem g_Mc_cells (X : Cx p s m args meth c (Gz z) cc nL ret own) {i : Nat} (hw : Cond.fieldLink own i "PascalMachine$Machine" "cells" "[I" ∈ gt) (hd : decode cc pc = .ok (.getfield i, 3)) (kk : V p l e R s m args below meth c (Gz z) nL cells slots Q (cw z a u w P F T N C D M) (pc + 3) lv (.ref (a 14) :: sk)) : V p l e R s m args below meth c (Gz z) nL cells slots Q (cw z a u w P F T N C D M) pc lv (.ref (a 13) :: sk) := V.get X in_Mc 13 rfl rfl 1 (by decide) hw rfl hd kk
theorem g_Mc_outerFrames (X : Cx p s m args meth c (Gz z) cc nL ret own) {i : Nat} (hw : Cond.fieldLink own i "PascalMachine$Machine" "outerFrames" "[I" ∈ gt) (hd : decode cc pc = .ok (.getfield i, 3)) (kk : V p l e R s m args below meth c (Gz z) nL cells slots Q (cw z a u w P F T N C D M) (pc + 3) lv (.ref (a 15) :: sk)) : V p l e R s m args below meth c (Gz z) nL cells slots Q (cw z a u w P F T N C D M) pc lv (.ref (a 13) :: sk) := V.get X in_Mc 13 rfl rfl 2 (by decide) hw rfl hd kk
theorem g_Mc_returns (X : Cx p s m args meth c (Gz z) cc nL ret own) {i : Nat} (hw : Cond.fieldLink own i "PascalMachine$Machine" "returns" "[I" ∈ gt) (hd : decode cc pc = .ok (.getfield i, 3)) (kk : V p l e R s m args below meth c (Gz z) nL cells slots Q (cw z a u w P F T N C D M) (pc + 3) lv (.ref (a 16) :: sk)) : V p l e R s m args below meth c (Gz z) nL cells slots Q (cw z a u w P F T N C D M) pc lv (.ref (a 13) :: sk) := V.get X in_Mc 13 rfl rfl 3 (by decide) hw rfl hd kk
theorem g_Mc_stack (X : Cx p s m args meth c (Gz z) cc nL ret own) {i : Nat} (hw : Cond.fieldLink own i "PascalMachine$Machine" "stack" "[I" ∈ gt) (hd : decode cc pc = .ok (.getfield i, 3)) (kk : V p l e R s m args below meth c (Gz z) nL cells slots Q (cw z a u w P F T N C D M) (pc + 3) lv (.ref (a 17) :: sk)) : V p l e R s m args below meth c (Gz z) nL cells slots Q (cw z a u w P F T N C D M) pc lv (.ref (a 13) :: sk) := V.get X in_Mc 13 rfl rfl 4 (by decide) hw rfl hd kk
theorem g_Mc_top (X : Cx p s m args meth c (Gz z) cc nL ret own) {i : Nat} (hw : Cond.fieldLink own i "PascalMachine$Machine" "top" "I" ∈ gt) (hd : decode cc pc = .ok (.getfield i, 3)) (kk : V p l e R s m args below meth c (Gz z) nL cells slots Q (cw z a u w P F T N C D M) (pc + 3) lv (.int (nI M.2.2.2.2.1) :: sk)) : V p l e R s m args below meth c (Gz z) nL cells slots Q (cw z a u w P F T N C D M) pc lv (.ref (a 13) :: sk) := V.get X in_Mc 13 rfl rfl 5 (by decide) hw rfl hd kk
theorem p_Mc_top (X : Cx p s m args meth c (Gz z) cc nL ret own) {i : Nat} {x : Nat} (hw : Cond.fieldLink own i "PascalMachine$Machine" "top" "I" ∈ gt) (hd : decode cc pc = .ok (.putfield i, 3)) (kk : V p l e R s m args below meth c (Gz z) nL cells slots Q (cw z a u w P F T N C D (M.1, M.2.1, M.2.2.1, M.2.2.2.1, x, M.2.2.2.2.2.1, M.2.2.2.2.2.2.1, M.2.2.2.2.2.2.2.1, M.2.2.2.2.2.2.2.2.1, M.2.2.2.2.2.2.2.2.2.1, M.2.2.2.2.2.2.2.2.2.2.1, M.2.2.2.2.2.2.2.2.2.2.2)) (pc + 3) lv sk) : V p l e R s m args below meth c (Gz z) nL cells slots Q (cw z a u w P F T N C D M) pc lv (.int (nI x) :: .ref (a 13) :: sk) := V.put (ty := .int) X in_Mc t_Mc t_Mc_ok n_Mc 13 rfl rfl 5 (by decide) hw rfl (by decide +kernel) (vp_nar_int _) rfl (Nat.le_of_ble_eq_true rfl) rfl hd kk
theorem g_Mc_depth (X : Cx p s m args meth c (Gz z) cc nL ret own) {i : Nat} (hw : Cond.fieldLink own i "PascalMachine$Machine" "depth" "I" ∈ gt) (hd : decode cc pc = .ok (.getfield i, 3)) (kk : V p l e R s m args below meth c (Gz z) nL cells slots Q (cw z a u w P F T N C D M) (pc + 3) lv (.int (nI M.2.2.2.2.2.1) :: sk)) : V p l e R s m args below meth c (Gz z) nL cells slots Q (cw z a u w P F T N C D M) pc lv (.ref (a 13) :: sk) := V.get X in_Mc 13 rfl rfl 6 (by decide) hw rfl hd kk
theorem p_Mc_depth (X : Cx p s m args meth c (Gz z) cc nL ret own) {i : Nat} {x : Nat} (hw : Cond.fieldLink own i "PascalMachine$Machine" "depth" "I" ∈ gt) (hd : decode cc pc = .ok (.putfield i, 3)) (kk : V p l e R s m args below meth c (Gz z) nL cells slots Q (cw z a u w P F T N C D (M.1, M.2.1, M.2.2.1, M.2.2.2.1, M.2.2.2.2.1, x, M.2.2.2.2.2.2.1, M.2.2.2.2.2.2.2.1, M.2.2.2.2.2.2.2.2.1, M.2.2.2.2.2.2.2.2.2.1, M.2.2.2.2.2.2.2.2.2.2.1, M.2.2.2.2.2.2.2.2.2.2.2)) (pc + 3) lv sk) : V p l e R s m args below meth c (Gz z) nL cells slots Q (cw z a u w P F T N C D M) pc lv (.int (nI x) :: .ref (a 13) :: sk) := V.put (ty := .int) X in_Mc t_Mc t_Mc_ok n_Mc 13 rfl rfl 6 (by decide) hw rfl (by decide +kernel) (vp_nar_int _) rfl (Nat.le_of_ble_eq_true rfl) rfl hd kk
theorem g_Mc_next (X : Cx p s m args meth c (Gz z) cc nL ret own) {i : Nat} (hw : Cond.fieldLink own i "PascalMachine$Machine" "next" "I" ∈ gt) (hd : decode cc pc = .ok (.getfield i, 3)) (kk : V p l e R s m args below meth c (Gz z) nL cells slots Q (cw z a u w P F T N C D M) (pc + 3) lv (.int (nI M.2.2.2.2.2.2.1) :: sk)) : V p l e R s m args below meth c (Gz z) nL cells slots Q (cw z a u w P F T N C D M) pc lv (.ref (a 13) :: sk) := V.get X in_Mc 13 rfl rfl 7 (by decide) hw rfl hd kk
theorem p_Mc_next (X : Cx p s m args meth c (Gz z) cc nL ret own) {i : Nat} {x : Nat} (hw : Cond.fieldLink own i "PascalMachine$Machine" "next" "I" ∈ gt) (hd : decode cc pc = .ok (.putfield i, 3)) (kk : V p l e R s m args below meth c (Gz z) nL cells slots Q (cw z a u w P F T N C D (M.1, M.2.1, M.2.2.1, M.2.2.2.1, M.2.2.2.2.1, M.2.2.2.2.2.1, x, M.2.2.2.2.2.2.2.1, M.2.2.2.2.2.2.2.2.1, M.2.2.2.2.2.2.2.2.2.1, M.2.2.2.2.2.2.2.2.2.2.1, M.2.2.2.2.2.2.2.2.2.2.2)) (pc + 3) lv sk) : V p l e R s m args below meth c (Gz z) nL cells slots Q (cw z a u w P F T N C D M) pc lv (.int (nI x) :: .ref (a 13) :: sk) := V.put (ty := .int) X in_Mc t_Mc t_Mc_ok n_Mc 13 rfl rfl 7 (by decide) hw rfl (by decide +kernel) (vp_nar_int _) rfl (Nat.le_of_ble_eq_true rfl) rfl hd kk
theorem g_Mc_values (X : Cx p s m args meth c (Gz z) cc nL ret own) {i : Nat} (hw : Cond.fieldLink own i "PascalMachine$Machine" "values" "[I" ∈ gt) (hd : decode cc pc = .ok (.getfield i, 3)) (kk : V p l e R s m args below meth c (Gz z) nL cells slots Q (cw z a u w P F T N C D M) (pc + 3) lv (.ref (a 18) :: sk)) : V p l e R s m args below meth c (Gz z) nL cells slots Q (cw z a u w P F T N C D M) pc lv (.ref (a 13) :: sk) := V.get X in_Mc 13 rfl rfl 8 (by decide) hw rfl hd kk
theorem g_Mc_written (X : Cx p s m args meth c (Gz z) cc nL ret own) {i : Nat} (hw : Cond.fieldLink own i "PascalMachine$Machine" "written" "I" ∈ gt) (hd : decode cc pc = .ok (.getfield i, 3)) (kk : V p l e R s m args below meth c (Gz z) nL cells slots Q (cw z a u w P F T N C D M) (pc + 3) lv (.int (nI M.2.2.2.2.2.2.2.2.1) :: sk)) : V p l e R s m args below meth c (Gz z) nL cells slots Q (cw z a u w P F T N C D M) pc lv (.ref (a 13) :: sk) := V.get X in_Mc 13 rfl rfl 9 (by decide) hw rfl hd kk
theorem p_Mc_written (X : Cx p s m args meth c (Gz z) cc nL ret own) {i : Nat} {x : Nat} (hw : Cond.fieldLink own i "PascalMachine$Machine" "written" "I" ∈ gt) (hd : decode cc pc = .ok (.putfield i, 3)) (kk : V p l e R s m args below meth c (Gz z) nL cells slots Q (cw z a u w P F T N C D (M.1, M.2.1, M.2.2.1, M.2.2.2.1, M.2.2.2.2.1, M.2.2.2.2.2.1, M.2.2.2.2.2.2.1, M.2.2.2.2.2.2.2.1, x, M.2.2.2.2.2.2.2.2.2.1, M.2.2.2.2.2.2.2.2.2.2.1, M.2.2.2.2.2.2.2.2.2.2.2)) (pc + 3) lv sk) : V p l e R s m args below meth c (Gz z) nL cells slots Q (cw z a u w P F T N C D M) pc lv (.int (nI x) :: .ref (a 13) :: sk) := V.put (ty := .int) X in_Mc t_Mc t_Mc_ok n_Mc 13 rfl rfl 9 (by decide) hw rfl (by decide +kernel) (vp_nar_int _) rfl (Nat.le_of_ble_eq_true rfl) rfl hd kk
theorem g_Mc_lost (X : Cx p s m args meth c (Gz z) cc nL ret own) {i : Nat} (hw : Cond.fieldLink own i "PascalMachine$Machine" "lost" "I" ∈ gt) (hd : decode cc pc = .ok (.getfield i, 3)) (kk : V p l e R s m args below meth c (Gz z) nL cells slots Q (cw z a u w P F T N C D M) (pc + 3) lv (.int (nI M.2.2.2.2.2.2.2.2.2.1) :: sk)) : V p l e R s m args below meth c (Gz z) nL cells slots Q (cw z a u w P F T N C D M) pc lv (.ref (a 13) :: sk) := V.get X in_Mc 13 rfl rfl 10 (by decide) hw rfl hd kk
theorem p_Mc_lost (X : Cx p s m args meth c (Gz z) cc nL ret own) {i : Nat} {x : Nat} (hw : Cond.fieldLink own i "PascalMachine$Machine" "lost" "I" ∈ gt) (hd : decode cc pc = .ok (.putfield i, 3)) (kk : V p l e R s m args below meth c (Gz z) nL cells slots Q (cw z a u w P F T N C D (M.1, M.2.1, M.2.2.1, M.2.2.2.1, M.2.2.2.2.1, M.2.2.2.2.2.1, M.2.2.2.2.2.2.1, M.2.2.2.2.2.2.2.1, M.2.2.2.2.2.2.2.2.1, x, M.2.2.2.2.2.2.2.2.2.2.1, M.2.2.2.2.2.2.2.2.2.2.2)) (pc + 3) lv sk) : V p l e R s m args below meth c (Gz z) nL cells slots Q (cw z a u w P F T N C D M) pc lv (.int (nI x) :: .ref (a 13) :: sk) := V.put (ty := .int) X in_Mc t_Mc t_Mc_ok n_Mc 13 rfl rfl 10 (by decide) hw rfl (by decide +kernel) (vp_nar_int _) rfl (Nat.le_of_ble_eq_true rfl) rfl hd kk
theorem g_Mc_steps (X : Cx p s m args meth c (Gz z) cc nL ret own) {i : Nat} (hw : Cond.fieldLink own i "PascalMachine$Machine" "steps" "I" ∈ gt) (hd : decode cc pc = .ok (.getfield i, 3)) (kk : V p l e R s m args below meth c (Gz z) nL cells slots Q (cw z a u w P F T N C D M) (pc + 3) lv (.int (nI M.2.2.2.2.2.2.2.2.2.2.1) :: sk)) : V p l e R s m args below meth c (Gz z) nL cells slots Q (cw z a u w P F T N C D M) pc lv (.ref (a 13) :: sk) := V.get X in_Mc 13 rfl rfl 11 (by decide) hw rfl hd kk
theorem p_Mc_steps (X : Cx p s m args meth c (Gz z) cc nL ret own) {i : Nat} {x : Nat} (hw : Cond.fieldLink own i "PascalMachine$Machine" "steps" "I" ∈ gt) (hd : decode cc pc = .ok (.putfield i, 3)) (kk : V p l e R s m args below meth c (Gz z) nL cells slots Q (cw z a u w P F T N C D (M.1, M.2.1, M.2.2.1, M.2.2.2.1, M.2.2.2.2.1, M.2.2.2.2.2.1, M.2.2.2.2.2.2.1, M.2.2.2.2.2.2.2.1, M.2.2.2.2.2.2.2.2.1, M.2.2.2.2.2.2.2.2.2.1, x, M.2.2.2.2.2.2.2.2.2.2.2)) (pc + 3) lv sk) : V p l e R s m args below meth c (Gz z) nL cells slots Q (cw z a u w P F T N C D M) pc lv (.int (nI x) :: .ref (a 13) :: sk) := V.put (ty := .int) X in_Mc t_Mc t_Mc_ok n_Mc 13 rfl rfl 11 (by decide) hw rfl (by decide +kernel) (vp_nar_int _) rfl (Nat.le_of_ble_eq_true rfl) rfl hd kk
theorem g_Mc_deepest (X : Cx p s m args meth c (Gz z) cc nL ret own) {i : Nat} (hw : Cond.fieldLink own i "PascalMachine$Machine" "deepest" "I" ∈ gt) (hd : decode cc pc = .ok (.getfield i, 3)) (kk : V p l e R s m args below meth c (Gz z) nL cells slots Q (cw z a u w P F T N C D M) (pc + 3) lv (.int (nI M.2.2.2.2.2.2.2.2.2.2.2) :: sk)) : V p l e R s m args below meth c (Gz z) nL cells slots Q (cw z a u w P F T N C D M) pc lv (.ref (a 13) :: sk) := V.get X in_Mc 13 rfl rfl 12 (by decide) hw rfl hd kk
theorem p_Mc_deepest (X : Cx p s m args meth c (Gz z) cc nL ret own) {i : Nat} {x : Nat} (hw : Cond.fieldLink own i "PascalMachine$Machine" "deepest" "I" ∈ gt) (hd : decode cc pc = .ok (.putfield i, 3)) (kk : V p l e R s m args below meth c (Gz z) nL cells slots Q (cw z a u w P F T N C D (M.1, M.2.1, M.2.2.1, M.2.2.2.1, M.2.2.2.2.1, M.2.2.2.2.2.1, M.2.2.2.2.2.2.1, M.2.2.2.2.2.2.2.1, M.2.2.2.2.2.2.2.2.1, M.2.2.2.2.2.2.2.2.2.1, M.2.2.2.2.2.2.2.2.2.2.1, x)) (pc + 3) lv sk) : V p l e R s m args below meth c (Gz z) nL cells slots Q (cw z a u w P F T N C D M) pc lv (.int (nI x) :: .ref (a 13) :: sk) := V.put (ty := .int) X in_Mc t_Mc t_Mc_ok n_Mc 13 rfl rfl 12 (by decide) hw rfl (by decide +kernel) (vp_nar_int _) rfl (Nat.le_of_ble_eq_true rfl) rfl hd kk
theorem g_Co_operations (X : Cx p s m args meth c (Gz z) cc nL ret own) {i : Nat} (hw : Cond.fieldLink own i "PascalMachine$Code" "operations" "[I" ∈ gt) (hd : decode cc pc = .ok (.getfield i, 3)) (kk : V p l e R s m args below meth c (Gz z) nL cells slots Q (cw z a u w P F T N C D M) (pc + 3) lv (.ref (u 1) :: sk)) : V p l e R s m args below meth c (Gz z) nL cells slots Q (cw z a u w P F T N C D M) pc lv (.ref (u 0) :: sk) := V.get X in_Co 19 rfl rfl 0 (by decide) hw rfl hd kk
theorem g_Co_firsts (X : Cx p s m args meth c (Gz z) cc nL ret own) {i : Nat} (hw : Cond.fieldLink own i "PascalMachine$Code" "firsts" "[I" ∈ gt) (hd : decode cc pc = .ok (.getfield i, 3)) (kk : V p l e R s m args below meth c (Gz z) nL cells slots Q (cw z a u w P F T N C D M) (pc + 3) lv (.ref (u 2) :: sk)) : V p l e R s m args below meth c (Gz z) nL cells slots Q (cw z a u w P F T N C D M) pc lv (.ref (u 0) :: sk) := V.get X in_Co 19 rfl rfl 1 (by decide) hw rfl hd kk
theorem g_Co_seconds (X : Cx p s m args meth c (Gz z) cc nL ret own) {i : Nat} (hw : Cond.fieldLink own i "PascalMachine$Code" "seconds" "[I" ∈ gt) (hd : decode cc pc = .ok (.getfield i, 3)) (kk : V p l e R s m args below meth c (Gz z) nL cells slots Q (cw z a u w P F T N C D M) (pc + 3) lv (.ref (u 3) :: sk)) : V p l e R s m args below meth c (Gz z) nL cells slots Q (cw z a u w P F T N C D M) pc lv (.ref (u 0) :: sk) := V.get X in_Co 19 rfl rfl 2 (by decide) hw rfl hd kk
theorem g_Co_entries (X : Cx p s m args meth c (Gz z) cc nL ret own) {i : Nat} (hw : Cond.fieldLink own i "PascalMachine$Code" "entries" "[I" ∈ gt) (hd : decode cc pc = .ok (.getfield i, 3)) (kk : V p l e R s m args below meth c (Gz z) nL cells slots Q (cw z a u w P F T N C D M) (pc + 3) lv (.ref (u 4) :: sk)) : V p l e R s m args below meth c (Gz z) nL cells slots Q (cw z a u w P F T N C D M) pc lv (.ref (u 0) :: sk) := V.get X in_Co 19 rfl rfl 3 (by decide) hw rfl hd kk
theorem g_Co_parameters (X : Cx p s m args meth c (Gz z) cc nL ret own) {i : Nat} (hw : Cond.fieldLink own i "PascalMachine$Code" "parameters" "[I" ∈ gt) (hd : decode cc pc = .ok (.getfield i, 3)) (kk : V p l e R s m args below meth c (Gz z) nL cells slots Q (cw z a u w P F T N C D M) (pc + 3) lv (.ref (u 5) :: sk)) : V p l e R s m args below meth c (Gz z) nL cells slots Q (cw z a u w P F T N C D M) pc lv (.ref (u 0) :: sk) := V.get X in_Co 19 rfl rfl 4 (by decide) hw rfl hd kk
theorem g_Co_references (X : Cx p s m args meth c (Gz z) cc nL ret own) {i : Nat} (hw : Cond.fieldLink own i "PascalMachine$Code" "references" "[I" ∈ gt) (hd : decode cc pc = .ok (.getfield i, 3)) (kk : V p l e R s m args below meth c (Gz z) nL cells slots Q (cw z a u w P F T N C D M) (pc + 3) lv (.ref (u 6) :: sk)) : V p l e R s m args below meth c (Gz z) nL cells slots Q (cw z a u w P F T N C D M) pc lv (.ref (u 0) :: sk) := V.get X in_Co 19 rfl rfl 5 (by decide) hw rfl hd kk
theorem g_Co_size (X : Cx p s m args meth c (Gz z) cc nL ret own) {i : Nat} (hw : Cond.fieldLink own i "PascalMachine$Code" "size" "I" ∈ gt) (hd : decode cc pc = .ok (.getfield i, 3)) (kk : V p l e R s m args below meth c (Gz z) nL cells slots Q (cw z a u w P F T N C D M) (pc + 3) lv (.int (nI C.2.2.2.2.2.2.1) :: sk)) : V p l e R s m args below meth c (Gz z) nL cells slots Q (cw z a u w P F T N C D M) pc lv (.ref (u 0) :: sk) := V.get X in_Co 19 rfl rfl 6 (by decide) hw rfl hd kk
theorem p_Co_size (X : Cx p s m args meth c (Gz z) cc nL ret own) {i : Nat} {x : Nat} (hw : Cond.fieldLink own i "PascalMachine$Code" "size" "I" ∈ gt) (hd : decode cc pc = .ok (.putfield i, 3)) (kk : V p l e R s m args below meth c (Gz z) nL cells slots Q (cw z a u w P F T N (C.1, C.2.1, C.2.2.1, C.2.2.2.1, C.2.2.2.2.1, C.2.2.2.2.2.1, x, C.2.2.2.2.2.2.2) D M) (pc + 3) lv sk) : V p l e R s m args below meth c (Gz z) nL cells slots Q (cw z a u w P F T N C D M) pc lv (.int (nI x) :: .ref (u 0) :: sk) := V.put (ty := .int) X in_Co t_Co t_Co_ok n_Co 19 rfl rfl 6 (by decide) hw rfl (by decide +kernel) (vp_nar_int _) rfl (Nat.le_of_ble_eq_true rfl) rfl hd kk
theorem g_Co_start (X : Cx p s m args meth c (Gz z) cc nL ret own) {i : Nat} (hw : Cond.fieldLink own i "PascalMachine$Code" "start" "I" ∈ gt) (hd : decode cc pc = .ok (.getfield i, 3)) (kk : V p l e R s m args below meth c (Gz z) nL cells slots Q (cw z a u w P F T N C D M) (pc + 3) lv (.int (nI C.2.2.2.2.2.2.2) :: sk)) : V p l e R s m args below meth c (Gz z) nL cells slots Q (cw z a u w P F T N C D M) pc lv (.ref (u 0) :: sk) := V.get X in_Co 19 rfl rfl 7 (by decide) hw rfl hd kk
theorem p_Co_start (X : Cx p s m args meth c (Gz z) cc nL ret own) {i : Nat} {x : Nat} (hw : Cond.fieldLink own i "PascalMachine$Code" "start" "I" ∈ gt) (hd : decode cc pc = .ok (.putfield i, 3)) (kk : V p l e R s m args below meth c (Gz z) nL cells slots Q (cw z a u w P F T N (C.1, C.2.1, C.2.2.1, C.2.2.2.1, C.2.2.2.2.1, C.2.2.2.2.2.1, C.2.2.2.2.2.2.1, x) D M) (pc + 3) lv sk) : V p l e R s m args below meth c (Gz z) nL cells slots Q (cw z a u w P F T N C D M) pc lv (.int (nI x) :: .ref (u 0) :: sk) := V.put (ty := .int) X in_Co t_Co t_Co_ok n_Co 19 rfl rfl 7 (by decide) hw rfl (by decide +kernel) (vp_nar_int _) rfl (Nat.le_of_ble_eq_true rfl) rfl hd kk
theorem g_Cd_operations (X : Cx p s m args meth c (Gz z) cc nL ret own) {i : Nat} (hw : Cond.fieldLink own i "PascalMachine$Code" "operations" "[I" ∈ gt) (hd : decode cc pc = .ok (.getfield i, 3)) (kk : V p l e R s m args below meth c (Gz z) nL cells slots Q (cw z a u w P F T N C D M) (pc + 3) lv (.ref (w 1) :: sk)) : V p l e R s m args below meth c (Gz z) nL cells slots Q (cw z a u w P F T N C D M) pc lv (.ref (w 0) :: sk) := V.get X in_Co 26 rfl rfl 0 (by decide) hw rfl hd kk
theorem g_Cd_firsts (X : Cx p s m args meth c (Gz z) cc nL ret own) {i : Nat} (hw : Cond.fieldLink own i "PascalMachine$Code" "firsts" "[I" ∈ gt) (hd : decode cc pc = .ok (.getfield i, 3)) (kk : V p l e R s m args below meth c (Gz z) nL cells slots Q (cw z a u w P F T N C D M) (pc + 3) lv (.ref (w 2) :: sk)) : V p l e R s m args below meth c (Gz z) nL cells slots Q (cw z a u w P F T N C D M) pc lv (.ref (w 0) :: sk) := V.get X in_Co 26 rfl rfl 1 (by decide) hw rfl hd kk
theorem g_Cd_seconds (X : Cx p s m args meth c (Gz z) cc nL ret own) {i : Nat} (hw : Cond.fieldLink own i "PascalMachine$Code" "seconds" "[I" ∈ gt) (hd : decode cc pc = .ok (.getfield i, 3)) (kk : V p l e R s m args below meth c (Gz z) nL cells slots Q (cw z a u w P F T N C D M) (pc + 3) lv (.ref (w 3) :: sk)) : V p l e R s m args below meth c (Gz z) nL cells slots Q (cw z a u w P F T N C D M) pc lv (.ref (w 0) :: sk) := V.get X in_Co 26 rfl rfl 2 (by decide) hw rfl hd kk
theorem g_Cd_entries (X : Cx p s m args meth c (Gz z) cc nL ret own) {i : Nat} (hw : Cond.fieldLink own i "PascalMachine$Code" "entries" "[I" ∈ gt) (hd : decode cc pc = .ok (.getfield i, 3)) (kk : V p l e R s m args below meth c (Gz z) nL cells slots Q (cw z a u w P F T N C D M) (pc + 3) lv (.ref (w 4) :: sk)) : V p l e R s m args below meth c (Gz z) nL cells slots Q (cw z a u w P F T N C D M) pc lv (.ref (w 0) :: sk) := V.get X in_Co 26 rfl rfl 3 (by decide) hw rfl hd kk
theorem g_Cd_parameters (X : Cx p s m args meth c (Gz z) cc nL ret own) {i : Nat} (hw : Cond.fieldLink own i "PascalMachine$Code" "parameters" "[I" ∈ gt) (hd : decode cc pc = .ok (.getfield i, 3)) (kk : V p l e R s m args below meth c (Gz z) nL cells slots Q (cw z a u w P F T N C D M) (pc + 3) lv (.ref (w 5) :: sk)) : V p l e R s m args below meth c (Gz z) nL cells slots Q (cw z a u w P F T N C D M) pc lv (.ref (w 0) :: sk) := V.get X in_Co 26 rfl rfl 4 (by decide) hw rfl hd kk
theorem g_Cd_references (X : Cx p s m args meth c (Gz z) cc nL ret own) {i : Nat} (hw : Cond.fieldLink own i "PascalMachine$Code" "references" "[I" ∈ gt) (hd : decode cc pc = .ok (.getfield i, 3)) (kk : V p l e R s m args below meth c (Gz z) nL cells slots Q (cw z a u w P F T N C D M) (pc + 3) lv (.ref (w 6) :: sk)) : V p l e R s m args below meth c (Gz z) nL cells slots Q (cw z a u w P F T N C D M) pc lv (.ref (w 0) :: sk) := V.get X in_Co 26 rfl rfl 5 (by decide) hw rfl hd kk
theorem g_Cd_size (X : Cx p s m args meth c (Gz z) cc nL ret own) {i : Nat} (hw : Cond.fieldLink own i "PascalMachine$Code" "size" "I" ∈ gt) (hd : decode cc pc = .ok (.getfield i, 3)) (kk : V p l e R s m args below meth c (Gz z) nL cells slots Q (cw z a u w P F T N C D M) (pc + 3) lv (.int (nI D.2.2.2.2.2.2.1) :: sk)) : V p l e R s m args below meth c (Gz z) nL cells slots Q (cw z a u w P F T N C D M) pc lv (.ref (w 0) :: sk) := V.get X in_Co 26 rfl rfl 6 (by decide) hw rfl hd kk
theorem p_Cd_size (X : Cx p s m args meth c (Gz z) cc nL ret own) {i : Nat} {x : Nat} (hw : Cond.fieldLink own i "PascalMachine$Code" "size" "I" ∈ gt) (hd : decode cc pc = .ok (.putfield i, 3)) (kk : V p l e R s m args below meth c (Gz z) nL cells slots Q (cw z a u w P F T N C (D.1, D.2.1, D.2.2.1, D.2.2.2.1, D.2.2.2.2.1, D.2.2.2.2.2.1, x, D.2.2.2.2.2.2.2) M) (pc + 3) lv sk) : V p l e R s m args below meth c (Gz z) nL cells slots Q (cw z a u w P F T N C D M) pc lv (.int (nI x) :: .ref (w 0) :: sk) := V.put (ty := .int) X in_Co t_Co t_Co_ok n_Co 26 rfl rfl 6 (by decide) hw rfl (by decide +kernel) (vp_nar_int _) rfl (Nat.le_of_ble_eq_true rfl) rfl hd kk
theorem g_Cd_start (X : Cx p s m args meth c (Gz z) cc nL ret own) {i : Nat} (hw : Cond.fieldLink own i "PascalMachine$Code" "start" "I" ∈ gt) (hd : decode cc pc = .ok (.getfield i, 3)) (kk : V p l e R s m args below meth c (Gz z) nL cells slots Q (cw z a u w P F T N C D M) (pc + 3) lv (.int (nI D.2.2.2.2.2.2.2) :: sk)) : V p l e R s m args below meth c (Gz z) nL cells slots Q (cw z a u w P F T N C D M) pc lv (.ref (w 0) :: sk) := V.get X in_Co 26 rfl rfl 7 (by decide) hw rfl hd kk
theorem p_Cd_start (X : Cx p s m args meth c (Gz z) cc nL ret own) {i : Nat} {x : Nat} (hw : Cond.fieldLink own i "PascalMachine$Code" "start" "I" ∈ gt) (hd : decode cc pc = .ok (.putfield i, 3)) (kk : V p l e R s m args below meth c (Gz z) nL cells slots Q (cw z a u w P F T N C (D.1, D.2.1, D.2.2.1, D.2.2.2.1, D.2.2.2.2.1, D.2.2.2.2.2.1, D.2.2.2.2.2.2.1, x) M) (pc + 3) lv sk) : V p l e R s m args below meth c (Gz z) nL cells slots Q (cw z a u w P F T N C D M) pc lv (.int (nI x) :: .ref (w 0) :: sk) := V.put (ty := .int) X in_Co t_Co t_Co_ok n_Co 26 rfl rfl 7 (by decide) hw rfl (by decide +kernel) (vp_nar_int _) rfl (Nat.le_of_ble_eq_true rfl) rfl hd kk
theorem l_PM_text (X : Cx p s m args meth c (Gz z) cc nL ret own) {k : Nat} (hk : k < 300) (hd : decode cc pc = .ok (.caload, 1)) (kk : V p l e R s m args below meth c (Gz z) nL cells slots Q (cw z a u w P F T N C D M) (pc + 1) lv (.int (nI (P.1 k)) :: sk)) : V p l e R s m args below meth c (Gz z) nL cells slots Q (cw z a u w P F T N C D M) pc lv (.int (nI k) :: .ref (a 1) :: sk) := V.cald X 1 2 rfl rfl hk (by decide) hd kk
theorem s_PM_text (X : Cx p s m args meth c (Gz z) cc nL ret own) {k : Nat} {x : Nat} (hk : k < 300) (hx0 : x < 65536) (hd : decode cc pc = .ok (.castore, 1)) (kk : V p l e R s m args below meth c (Gz z) nL cells slots Q (cw z a u w ((va_up P.1 k x), P.2.1, P.2.2) F T N C D M) (pc + 1) lv sk) : V p l e R s m args below meth c (Gz z) nL cells slots Q (cw z a u w P F T N C D M) pc lv (.int (nI x) :: .int (nI k) :: .ref (a 1) :: sk) := V.castN X 1 2 rfl rfl hk (by decide) hx0 rfl hd kk
theorem l_Tk_kinds (X : Cx p s m args meth c (Gz z) cc nL ret own) {k : Nat} (hk : k < 151) (hd : decode cc pc = .ok (.aaload, 1)) (kk : V p l e R s m args below meth c (Gz z) nL cells slots Q (cw z a u w P F T N C D M) (pc + 1) lv (va_rf ((T.1 k).map (ek z)) :: sk)) : V p l e R s m args below meth c (Gz z) nL cells slots Q (cw z a u w P F T N C D M) pc lv (.int (nI k) :: .ref (a 4) :: sk) := V.aald X 4 3 rfl rfl hk (by decide) hd kk
theorem l_Tk_places (X : Cx p s m args meth c (Gz z) cc nL ret own) {k : Nat} (hk : k < 151) (hd : decode cc pc = .ok (.iaload, 1)) (kk : V p l e R s m args below meth c (Gz z) nL cells slots Q (cw z a u w P F T N C D M) (pc + 1) lv (.int (nI (T.2.1 k)) :: sk)) : V p l e R s m args below meth c (Gz z) nL cells slots Q (cw z a u w P F T N C D M) pc lv (.int (nI k) :: .ref (a 5) :: sk) := V.iald X 5 0 rfl rfl hk (by decide) hd kk
theorem s_Tk_places (X : Cx p s m args meth c (Gz z) cc nL ret own) {k : Nat} {x : Nat} (hk : k < 151) (hd : decode cc pc = .ok (.iastore, 1)) (kk : V p l e R s m args below meth c (Gz z) nL cells slots Q (cw z a u w P F (T.1, (va_up T.2.1 k x), T.2.2.1, T.2.2.2.1, T.2.2.2.2.1, T.2.2.2.2.2.1, T.2.2.2.2.2.2) N C D M) (pc + 1) lv sk) : V p l e R s m args below meth c (Gz z) nL cells slots Q (cw z a u w P F T N C D M) pc lv (.int (nI x) :: .int (nI k) :: .ref (a 5) :: sk) := V.iastN X 5 0 rfl rfl hk (by decide) rfl hd kk
theorem l_Tk_contents (X : Cx p s m args meth c (Gz z) cc nL ret own) {k : Nat} (hk : k < 151) (hd : decode cc pc = .ok (.laload, 1)) (kk : V p l e R s m args below meth c (Gz z) nL cells slots Q (cw z a u w P F T N C D M) (pc + 1) lv (.long (T.2.2.1 k) :: sk)) : V p l e R s m args below meth c (Gz z) nL cells slots Q (cw z a u w P F T N C D M) pc lv (.int (nI k) :: .ref (a 6) :: sk) := V.lald X 6 1 rfl rfl hk (by decide) hd kk
theorem s_Tk_contents (X : Cx p s m args meth c (Gz z) cc nL ret own) {k : Nat} {x : Int64} (hk : k < 151) (hd : decode cc pc = .ok (.lastore, 1)) (kk : V p l e R s m args below meth c (Gz z) nL cells slots Q (cw z a u w P F (T.1, T.2.1, (va_up T.2.2.1 k x), T.2.2.2.1, T.2.2.2.2.1, T.2.2.2.2.2.1, T.2.2.2.2.2.2) N C D M) (pc + 1) lv sk) : V p l e R s m args below meth c (Gz z) nL cells slots Q (cw z a u w P F T N C D M) pc lv (.long x :: .int (nI k) :: .ref (a 6) :: sk) := V.last X 6 1 rfl rfl hk (by decide) rfl hd kk
theorem l_Nm_words (X : Cx p s m args meth c (Gz z) cc nL ret own) {k : Nat} (hk : k < 18) (hd : decode cc pc = .ok (.laload, 1)) (kk : V p l e R s m args below meth c (Gz z) nL cells slots Q (cw z a u w P F T N C D M) (pc + 1) lv (.long (N.1 k) :: sk)) : V p l e R s m args below meth c (Gz z) nL cells slots Q (cw z a u w P F T N C D M) pc lv (.int (nI k) :: .ref (a 8) :: sk) := V.lald X 8 1 rfl rfl hk (by decide) hd kk
theorem s_Nm_words (X : Cx p s m args meth c (Gz z) cc nL ret own) {k : Nat} {x : Int64} (hk : k < 18) (hd : decode cc pc = .ok (.lastore, 1)) (kk : V p l e R s m args below meth c (Gz z) nL cells slots Q (cw z a u w P F T ((va_up N.1 k x), N.2.1, N.2.2.1, N.2.2.2.1, N.2.2.2.2.1, N.2.2.2.2.2.1, N.2.2.2.2.2.2.1, N.2.2.2.2.2.2.2.1, N.2.2.2.2.2.2.2.2) C D M) (pc + 1) lv sk) : V p l e R s m args below meth c (Gz z) nL cells slots Q (cw z a u w P F T N C D M) pc lv (.long x :: .int (nI k) :: .ref (a 8) :: sk) := V.last X 8 1 rfl rfl hk (by decide) rfl hd kk
theorem l_Nm_kinds (X : Cx p s m args meth c (Gz z) cc nL ret own) {k : Nat} (hk : k < 18) (hd : decode cc pc = .ok (.iaload, 1)) (kk : V p l e R s m args below meth c (Gz z) nL cells slots Q (cw z a u w P F T N C D M) (pc + 1) lv (.int (nI (N.2.1 k)) :: sk)) : V p l e R s m args below meth c (Gz z) nL cells slots Q (cw z a u w P F T N C D M) pc lv (.int (nI k) :: .ref (a 9) :: sk) := V.iald X 9 0 rfl rfl hk (by decide) hd kk
theorem s_Nm_kinds (X : Cx p s m args meth c (Gz z) cc nL ret own) {k : Nat} {x : Nat} (hk : k < 18) (hd : decode cc pc = .ok (.iastore, 1)) (kk : V p l e R s m args below meth c (Gz z) nL cells slots Q (cw z a u w P F T (N.1, (va_up N.2.1 k x), N.2.2.1, N.2.2.2.1, N.2.2.2.2.1, N.2.2.2.2.2.1, N.2.2.2.2.2.2.1, N.2.2.2.2.2.2.2.1, N.2.2.2.2.2.2.2.2) C D M) (pc + 1) lv sk) : V p l e R s m args below meth c (Gz z) nL cells slots Q (cw z a u w P F T N C D M) pc lv (.int (nI x) :: .int (nI k) :: .ref (a 9) :: sk) := V.iastN X 9 0 rfl rfl hk (by decide) rfl hd kk
theorem l_Nm_levels (X : Cx p s m args meth c (Gz z) cc nL ret own) {k : Nat} (hk : k < 18) (hd : decode cc pc = .ok (.iaload, 1)) (kk : V p l e R s m args below meth c (Gz z) nL cells slots Q (cw z a u w P F T N C D M) (pc + 1) lv (.int (nI (N.2.2.1 k)) :: sk)) : V p l e R s m args below meth c (Gz z) nL cells slots Q (cw z a u w P F T N C D M) pc lv (.int (nI k) :: .ref (a 10) :: sk) := V.iald X 10 0 rfl rfl hk (by decide) hd kk
theorem s_Nm_levels (X : Cx p s m args meth c (Gz z) cc nL ret own) {k : Nat} {x : Nat} (hk : k < 18) (hd : decode cc pc = .ok (.iastore, 1)) (kk : V p l e R s m args below meth c (Gz z) nL cells slots Q (cw z a u w P F T (N.1, N.2.1, (va_up N.2.2.1 k x), N.2.2.2.1, N.2.2.2.2.1, N.2.2.2.2.2.1, N.2.2.2.2.2.2.1, N.2.2.2.2.2.2.2.1, N.2.2.2.2.2.2.2.2) C D M) (pc + 1) lv sk) : V p l e R s m args below meth c (Gz z) nL cells slots Q (cw z a u w P F T N C D M) pc lv (.int (nI x) :: .int (nI k) :: .ref (a 10) :: sk) := V.iastN X 10 0 rfl rfl hk (by decide) rfl hd kk
theorem l_Nm_numbers (X : Cx p s m args meth c (Gz z) cc nL ret own) {k : Nat} (hk : k < 18) (hd : decode cc pc = .ok (.iaload, 1)) (kk : V p l e R s m args below meth c (Gz z) nL cells slots Q (cw z a u w P F T N C D M) (pc + 1) lv (.int (nI (N.2.2.2.1 k)) :: sk)) : V p l e R s m args below meth c (Gz z) nL cells slots Q (cw z a u w P F T N C D M) pc lv (.int (nI k) :: .ref (a 11) :: sk) := V.iald X 11 0 rfl rfl hk (by decide) hd kk
theorem s_Nm_numbers (X : Cx p s m args meth c (Gz z) cc nL ret own) {k : Nat} {x : Nat} (hk : k < 18) (hd : decode cc pc = .ok (.iastore, 1)) (kk : V p l e R s m args below meth c (Gz z) nL cells slots Q (cw z a u w P F T (N.1, N.2.1, N.2.2.1, (va_up N.2.2.2.1 k x), N.2.2.2.2.1, N.2.2.2.2.2.1, N.2.2.2.2.2.2.1, N.2.2.2.2.2.2.2.1, N.2.2.2.2.2.2.2.2) C D M) (pc + 1) lv sk) : V p l e R s m args below meth c (Gz z) nL cells slots Q (cw z a u w P F T N C D M) pc lv (.int (nI x) :: .int (nI k) :: .ref (a 11) :: sk) := V.iastN X 11 0 rfl rfl hk (by decide) rfl hd kk
theorem l_Nm_slots (X : Cx p s m args meth c (Gz z) cc nL ret own) {k : Nat} (hk : k < 4) (hd : decode cc pc = .ok (.iaload, 1)) (kk : V p l e R s m args below meth c (Gz z) nL cells slots Q (cw z a u w P F T N C D M) (pc + 1) lv (.int (nI (N.2.2.2.2.1 k)) :: sk)) : V p l e R s m args below meth c (Gz z) nL cells slots Q (cw z a u w P F T N C D M) pc lv (.int (nI k) :: .ref (a 12) :: sk) := V.iald X 12 0 rfl rfl hk (by decide) hd kk
theorem s_Nm_slots (X : Cx p s m args meth c (Gz z) cc nL ret own) {k : Nat} {x : Nat} (hk : k < 4) (hd : decode cc pc = .ok (.iastore, 1)) (kk : V p l e R s m args below meth c (Gz z) nL cells slots Q (cw z a u w P F T (N.1, N.2.1, N.2.2.1, N.2.2.2.1, (va_up N.2.2.2.2.1 k x), N.2.2.2.2.2.1, N.2.2.2.2.2.2.1, N.2.2.2.2.2.2.2.1, N.2.2.2.2.2.2.2.2) C D M) (pc + 1) lv sk) : V p l e R s m args below meth c (Gz z) nL cells slots Q (cw z a u w P F T N C D M) pc lv (.int (nI x) :: .int (nI k) :: .ref (a 12) :: sk) := V.iastN X 12 0 rfl rfl hk (by decide) rfl hd kk
theorem l_Mc_cells (X : Cx p s m args meth c (Gz z) cc nL ret own) {k : Nat} (hk : k < 132) (hd : decode cc pc = .ok (.iaload, 1)) (kk : V p l e R s m args below meth c (Gz z) nL cells slots Q (cw z a u w P F T N C D M) (pc + 1) lv (.int (M.1 k) :: sk)) : V p l e R s m args below meth c (Gz z) nL cells slots Q (cw z a u w P F T N C D M) pc lv (.int (nI k) :: .ref (a 14) :: sk) := V.iald X 14 0 rfl rfl hk (by decide) hd kk
theorem s_Mc_cells (X : Cx p s m args meth c (Gz z) cc nL ret own) {k : Nat} {x : Int32} (hk : k < 132) (hd : decode cc pc = .ok (.iastore, 1)) (kk : V p l e R s m args below meth c (Gz z) nL cells slots Q (cw z a u w P F T N C D ((upd M.1 k x), M.2.1, M.2.2.1, M.2.2.2.1, M.2.2.2.2.1, M.2.2.2.2.2.1, M.2.2.2.2.2.2.1, M.2.2.2.2.2.2.2.1, M.2.2.2.2.2.2.2.2.1, M.2.2.2.2.2.2.2.2.2.1, M.2.2.2.2.2.2.2.2.2.2.1, M.2.2.2.2.2.2.2.2.2.2.2)) (pc + 1) lv sk) : V p l e R s m args below meth c (Gz z) nL cells slots Q (cw z a u w P F T N C D M) pc lv (.int x :: .int (nI k) :: .ref (a 14) :: sk) := V.iast X 14 0 rfl rfl hk (by decide) rfl hd kk
theorem l_Mc_outerFrames (X : Cx p s m args meth c (Gz z) cc nL ret own) {k : Nat} (hk : k < 11) (hd : decode cc pc = .ok (.iaload, 1)) (kk : V p l e R s m args below meth c (Gz z) nL cells slots Q (cw z a u w P F T N C D M) (pc + 1) lv (.int (nI (M.2.1 k)) :: sk)) : V p l e R s m args below meth c (Gz z) nL cells slots Q (cw z a u w P F T N C D M) pc lv (.int (nI k) :: .ref (a 15) :: sk) := V.iald X 15 0 rfl rfl hk (by decide) hd kk
theorem s_Mc_outerFrames (X : Cx p s m args meth c (Gz z) cc nL ret own) {k : Nat} {x : Nat} (hk : k < 11) (hd : decode cc pc = .ok (.iastore, 1)) (kk : V p l e R s m args below meth c (Gz z) nL cells slots Q (cw z a u w P F T N C D (M.1, (va_up M.2.1 k x), M.2.2.1, M.2.2.2.1, M.2.2.2.2.1, M.2.2.2.2.2.1, M.2.2.2.2.2.2.1, M.2.2.2.2.2.2.2.1, M.2.2.2.2.2.2.2.2.1, M.2.2.2.2.2.2.2.2.2.1, M.2.2.2.2.2.2.2.2.2.2.1, M.2.2.2.2.2.2.2.2.2.2.2)) (pc + 1) lv sk) : V p l e R s m args below meth c (Gz z) nL cells slots Q (cw z a u w P F T N C D M) pc lv (.int (nI x) :: .int (nI k) :: .ref (a 15) :: sk) := V.iastN X 15 0 rfl rfl hk (by decide) rfl hd kk
theorem l_Mc_returns (X : Cx p s m args meth c (Gz z) cc nL ret own) {k : Nat} (hk : k < 11) (hd : decode cc pc = .ok (.iaload, 1)) (kk : V p l e R s m args below meth c (Gz z) nL cells slots Q (cw z a u w P F T N C D M) (pc + 1) lv (.int (nI (M.2.2.1 k)) :: sk)) : V p l e R s m args below meth c (Gz z) nL cells slots Q (cw z a u w P F T N C D M) pc lv (.int (nI k) :: .ref (a 16) :: sk) := V.iald X 16 0 rfl rfl hk (by decide) hd kk
theorem s_Mc_returns (X : Cx p s m args meth c (Gz z) cc nL ret own) {k : Nat} {x : Nat} (hk : k < 11) (hd : decode cc pc = .ok (.iastore, 1)) (kk : V p l e R s m args below meth c (Gz z) nL cells slots Q (cw z a u w P F T N C D (M.1, M.2.1, (va_up M.2.2.1 k x), M.2.2.2.1, M.2.2.2.2.1, M.2.2.2.2.2.1, M.2.2.2.2.2.2.1, M.2.2.2.2.2.2.2.1, M.2.2.2.2.2.2.2.2.1, M.2.2.2.2.2.2.2.2.2.1, M.2.2.2.2.2.2.2.2.2.2.1, M.2.2.2.2.2.2.2.2.2.2.2)) (pc + 1) lv sk) : V p l e R s m args below meth c (Gz z) nL cells slots Q (cw z a u w P F T N C D M) pc lv (.int (nI x) :: .int (nI k) :: .ref (a 16) :: sk) := V.iastN X 16 0 rfl rfl hk (by decide) rfl hd kk
theorem l_Mc_stack (X : Cx p s m args meth c (Gz z) cc nL ret own) {k : Nat} (hk : k < 21) (hd : decode cc pc = .ok (.iaload, 1)) (kk : V p l e R s m args below meth c (Gz z) nL cells slots Q (cw z a u w P F T N C D M) (pc + 1) lv (.int (M.2.2.2.1 k) :: sk)) : V p l e R s m args below meth c (Gz z) nL cells slots Q (cw z a u w P F T N C D M) pc lv (.int (nI k) :: .ref (a 17) :: sk) := V.iald X 17 0 rfl rfl hk (by decide) hd kk
theorem s_Mc_stack (X : Cx p s m args meth c (Gz z) cc nL ret own) {k : Nat} {x : Int32} (hk : k < 21) (hd : decode cc pc = .ok (.iastore, 1)) (kk : V p l e R s m args below meth c (Gz z) nL cells slots Q (cw z a u w P F T N C D (M.1, M.2.1, M.2.2.1, (upd M.2.2.2.1 k x), M.2.2.2.2.1, M.2.2.2.2.2.1, M.2.2.2.2.2.2.1, M.2.2.2.2.2.2.2.1, M.2.2.2.2.2.2.2.2.1, M.2.2.2.2.2.2.2.2.2.1, M.2.2.2.2.2.2.2.2.2.2.1, M.2.2.2.2.2.2.2.2.2.2.2)) (pc + 1) lv sk) : V p l e R s m args below meth c (Gz z) nL cells slots Q (cw z a u w P F T N C D M) pc lv (.int x :: .int (nI k) :: .ref (a 17) :: sk) := V.iast X 17 0 rfl rfl hk (by decide) rfl hd kk
theorem l_Mc_values (X : Cx p s m args meth c (Gz z) cc nL ret own) {k : Nat} (hk : k < 32) (hd : decode cc pc = .ok (.iaload, 1)) (kk : V p l e R s m args below meth c (Gz z) nL cells slots Q (cw z a u w P F T N C D M) (pc + 1) lv (.int (M.2.2.2.2.2.2.2.1 k) :: sk)) : V p l e R s m args below meth c (Gz z) nL cells slots Q (cw z a u w P F T N C D M) pc lv (.int (nI k) :: .ref (a 18) :: sk) := V.iald X 18 0 rfl rfl hk (by decide) hd kk
theorem s_Mc_values (X : Cx p s m args meth c (Gz z) cc nL ret own) {k : Nat} {x : Int32} (hk : k < 32) (hd : decode cc pc = .ok (.iastore, 1)) (kk : V p l e R s m args below meth c (Gz z) nL cells slots Q (cw z a u w P F T N C D (M.1, M.2.1, M.2.2.1, M.2.2.2.1, M.2.2.2.2.1, M.2.2.2.2.2.1, M.2.2.2.2.2.2.1, (upd M.2.2.2.2.2.2.2.1 k x), M.2.2.2.2.2.2.2.2.1, M.2.2.2.2.2.2.2.2.2.1, M.2.2.2.2.2.2.2.2.2.2.1, M.2.2.2.2.2.2.2.2.2.2.2)) (pc + 1) lv sk) : V p l e R s m args below meth c (Gz z) nL cells slots Q (cw z a u w P F T N C D M) pc lv (.int x :: .int (nI k) :: .ref (a 18) :: sk) := V.iast X 18 0 rfl rfl hk (by decide) rfl hd kk
theorem l_Co_operations (X : Cx p s m args meth c (Gz z) cc nL ret own) {k : Nat} (hk : k < 300) (hd : decode cc pc = .ok (.iaload, 1)) (kk : V p l e R s m args below meth c (Gz z) nL cells slots Q (cw z a u w P F T N C D M) (pc + 1) lv (.int (nI (C.1 k)) :: sk)) : V p l e R s m args below meth c (Gz z) nL cells slots Q (cw z a u w P F T N C D M) pc lv (.int (nI k) :: .ref (u 1) :: sk) := V.iald X 20 0 rfl rfl hk (by decide) hd kk
theorem s_Co_operations (X : Cx p s m args meth c (Gz z) cc nL ret own) {k : Nat} {x : Nat} (hk : k < 300) (hd : decode cc pc = .ok (.iastore, 1)) (kk : V p l e R s m args below meth c (Gz z) nL cells slots Q (cw z a u w P F T N ((va_up C.1 k x), C.2.1, C.2.2.1, C.2.2.2.1, C.2.2.2.2.1, C.2.2.2.2.2.1, C.2.2.2.2.2.2.1, C.2.2.2.2.2.2.2) D M) (pc + 1) lv sk) : V p l e R s m args below meth c (Gz z) nL cells slots Q (cw z a u w P F T N C D M) pc lv (.int (nI x) :: .int (nI k) :: .ref (u 1) :: sk) := V.iastN X 20 0 rfl rfl hk (by decide) rfl hd kk
theorem l_Co_firsts (X : Cx p s m args meth c (Gz z) cc nL ret own) {k : Nat} (hk : k < 300) (hd : decode cc pc = .ok (.iaload, 1)) (kk : V p l e R s m args below meth c (Gz z) nL cells slots Q (cw z a u w P F T N C D M) (pc + 1) lv (.int (nI (C.2.1 k)) :: sk)) : V p l e R s m args below meth c (Gz z) nL cells slots Q (cw z a u w P F T N C D M) pc lv (.int (nI k) :: .ref (u 2) :: sk) := V.iald X 21 0 rfl rfl hk (by decide) hd kk
theorem s_Co_firsts (X : Cx p s m args meth c (Gz z) cc nL ret own) {k : Nat} {x : Nat} (hk : k < 300) (hd : decode cc pc = .ok (.iastore, 1)) (kk : V p l e R s m args below meth c (Gz z) nL cells slots Q (cw z a u w P F T N (C.1, (va_up C.2.1 k x), C.2.2.1, C.2.2.2.1, C.2.2.2.2.1, C.2.2.2.2.2.1, C.2.2.2.2.2.2.1, C.2.2.2.2.2.2.2) D M) (pc + 1) lv sk) : V p l e R s m args below meth c (Gz z) nL cells slots Q (cw z a u w P F T N C D M) pc lv (.int (nI x) :: .int (nI k) :: .ref (u 2) :: sk) := V.iastN X 21 0 rfl rfl hk (by decide) rfl hd kk
theorem l_Co_seconds (X : Cx p s m args meth c (Gz z) cc nL ret own) {k : Nat} (hk : k < 300) (hd : decode cc pc = .ok (.iaload, 1)) (kk : V p l e R s m args below meth c (Gz z) nL cells slots Q (cw z a u w P F T N C D M) (pc + 1) lv (.int (nI (C.2.2.1 k)) :: sk)) : V p l e R s m args below meth c (Gz z) nL cells slots Q (cw z a u w P F T N C D M) pc lv (.int (nI k) :: .ref (u 3) :: sk) := V.iald X 22 0 rfl rfl hk (by decide) hd kk
theorem s_Co_seconds (X : Cx p s m args meth c (Gz z) cc nL ret own) {k : Nat} {x : Nat} (hk : k < 300) (hd : decode cc pc = .ok (.iastore, 1)) (kk : V p l e R s m args below meth c (Gz z) nL cells slots Q (cw z a u w P F T N (C.1, C.2.1, (va_up C.2.2.1 k x), C.2.2.2.1, C.2.2.2.2.1, C.2.2.2.2.2.1, C.2.2.2.2.2.2.1, C.2.2.2.2.2.2.2) D M) (pc + 1) lv sk) : V p l e R s m args below meth c (Gz z) nL cells slots Q (cw z a u w P F T N C D M) pc lv (.int (nI x) :: .int (nI k) :: .ref (u 3) :: sk) := V.iastN X 22 0 rfl rfl hk (by decide) rfl hd kk
theorem l_Co_entries (X : Cx p s m args meth c (Gz z) cc nL ret own) {k : Nat} (hk : k < 6) (hd : decode cc pc = .ok (.iaload, 1)) (kk : V p l e R s m args below meth c (Gz z) nL cells slots Q (cw z a u w P F T N C D M) (pc + 1) lv (.int (nI (C.2.2.2.1 k)) :: sk)) : V p l e R s m args below meth c (Gz z) nL cells slots Q (cw z a u w P F T N C D M) pc lv (.int (nI k) :: .ref (u 4) :: sk) := V.iald X 23 0 rfl rfl hk (by decide) hd kk
theorem s_Co_entries (X : Cx p s m args meth c (Gz z) cc nL ret own) {k : Nat} {x : Nat} (hk : k < 6) (hd : decode cc pc = .ok (.iastore, 1)) (kk : V p l e R s m args below meth c (Gz z) nL cells slots Q (cw z a u w P F T N (C.1, C.2.1, C.2.2.1, (va_up C.2.2.2.1 k x), C.2.2.2.2.1, C.2.2.2.2.2.1, C.2.2.2.2.2.2.1, C.2.2.2.2.2.2.2) D M) (pc + 1) lv sk) : V p l e R s m args below meth c (Gz z) nL cells slots Q (cw z a u w P F T N C D M) pc lv (.int (nI x) :: .int (nI k) :: .ref (u 4) :: sk) := V.iastN X 23 0 rfl rfl hk (by decide) rfl hd kk
theorem l_Co_parameters (X : Cx p s m args meth c (Gz z) cc nL ret own) {k : Nat} (hk : k < 6) (hd : decode cc pc = .ok (.iaload, 1)) (kk : V p l e R s m args below meth c (Gz z) nL cells slots Q (cw z a u w P F T N C D M) (pc + 1) lv (.int (nI (C.2.2.2.2.1 k)) :: sk)) : V p l e R s m args below meth c (Gz z) nL cells slots Q (cw z a u w P F T N C D M) pc lv (.int (nI k) :: .ref (u 5) :: sk) := V.iald X 24 0 rfl rfl hk (by decide) hd kk
theorem s_Co_parameters (X : Cx p s m args meth c (Gz z) cc nL ret own) {k : Nat} {x : Nat} (hk : k < 6) (hd : decode cc pc = .ok (.iastore, 1)) (kk : V p l e R s m args below meth c (Gz z) nL cells slots Q (cw z a u w P F T N (C.1, C.2.1, C.2.2.1, C.2.2.2.1, (va_up C.2.2.2.2.1 k x), C.2.2.2.2.2.1, C.2.2.2.2.2.2.1, C.2.2.2.2.2.2.2) D M) (pc + 1) lv sk) : V p l e R s m args below meth c (Gz z) nL cells slots Q (cw z a u w P F T N C D M) pc lv (.int (nI x) :: .int (nI k) :: .ref (u 5) :: sk) := V.iastN X 24 0 rfl rfl hk (by decide) rfl hd kk
theorem l_Co_references (X : Cx p s m args meth c (Gz z) cc nL ret own) {k : Nat} (hk : k < 6) (hd : decode cc pc = .ok (.iaload, 1)) (kk : V p l e R s m args below meth c (Gz z) nL cells slots Q (cw z a u w P F T N C D M) (pc + 1) lv (.int (nI (C.2.2.2.2.2.1 k)) :: sk)) : V p l e R s m args below meth c (Gz z) nL cells slots Q (cw z a u w P F T N C D M) pc lv (.int (nI k) :: .ref (u 6) :: sk) := V.iald X 25 0 rfl rfl hk (by decide) hd kk
theorem s_Co_references (X : Cx p s m args meth c (Gz z) cc nL ret own) {k : Nat} {x : Nat} (hk : k < 6) (hd : decode cc pc = .ok (.iastore, 1)) (kk : V p l e R s m args below meth c (Gz z) nL cells slots Q (cw z a u w P F T N (C.1, C.2.1, C.2.2.1, C.2.2.2.1, C.2.2.2.2.1, (va_up C.2.2.2.2.2.1 k x), C.2.2.2.2.2.2.1, C.2.2.2.2.2.2.2) D M) (pc + 1) lv sk) : V p l e R s m args below meth c (Gz z) nL cells slots Q (cw z a u w P F T N C D M) pc lv (.int (nI x) :: .int (nI k) :: .ref (u 6) :: sk) := V.iastN X 25 0 rfl rfl hk (by decide) rfl hd kk
theorem l_Cd_operations (X : Cx p s m args meth c (Gz z) cc nL ret own) {k : Nat} (hk : k < 300) (hd : decode cc pc = .ok (.iaload, 1)) (kk : V p l e R s m args below meth c (Gz z) nL cells slots Q (cw z a u w P F T N C D M) (pc + 1) lv (.int (nI (D.1 k)) :: sk)) : V p l e R s m args below meth c (Gz z) nL cells slots Q (cw z a u w P F T N C D M) pc lv (.int (nI k) :: .ref (w 1) :: sk) := V.iald X 27 0 rfl rfl hk (by decide) hd kk
theorem s_Cd_operations (X : Cx p s m args meth c (Gz z) cc nL ret own) {k : Nat} {x : Nat} (hk : k < 300) (hd : decode cc pc = .ok (.iastore, 1)) (kk : V p l e R s m args below meth c (Gz z) nL cells slots Q (cw z a u w P F T N C ((va_up D.1 k x), D.2.1, D.2.2.1, D.2.2.2.1, D.2.2.2.2.1, D.2.2.2.2.2.1, D.2.2.2.2.2.2.1, D.2.2.2.2.2.2.2) M) (pc + 1) lv sk) : V p l e R s m args below meth c (Gz z) nL cells slots Q (cw z a u w P F T N C D M) pc lv (.int (nI x) :: .int (nI k) :: .ref (w 1) :: sk) := V.iastN X 27 0 rfl rfl hk (by decide) rfl hd kk
theorem l_Cd_firsts (X : Cx p s m args meth c (Gz z) cc nL ret own) {k : Nat} (hk : k < 300) (hd : decode cc pc = .ok (.iaload, 1)) (kk : V p l e R s m args below meth c (Gz z) nL cells slots Q (cw z a u w P F T N C D M) (pc + 1) lv (.int (nI (D.2.1 k)) :: sk)) : V p l e R s m args below meth c (Gz z) nL cells slots Q (cw z a u w P F T N C D M) pc lv (.int (nI k) :: .ref (w 2) :: sk) := V.iald X 28 0 rfl rfl hk (by decide) hd kk
theorem s_Cd_firsts (X : Cx p s m args meth c (Gz z) cc nL ret own) {k : Nat} {x : Nat} (hk : k < 300) (hd : decode cc pc = .ok (.iastore, 1)) (kk : V p l e R s m args below meth c (Gz z) nL cells slots Q (cw z a u w P F T N C (D.1, (va_up D.2.1 k x), D.2.2.1, D.2.2.2.1, D.2.2.2.2.1, D.2.2.2.2.2.1, D.2.2.2.2.2.2.1, D.2.2.2.2.2.2.2) M) (pc + 1) lv sk) : V p l e R s m args below meth c (Gz z) nL cells slots Q (cw z a u w P F T N C D M) pc lv (.int (nI x) :: .int (nI k) :: .ref (w 2) :: sk) := V.iastN X 28 0 rfl rfl hk (by decide) rfl hd kk
theorem l_Cd_seconds (X : Cx p s m args meth c (Gz z) cc nL ret own) {k : Nat} (hk : k < 300) (hd : decode cc pc = .ok (.iaload, 1)) (kk : V p l e R s m args below meth c (Gz z) nL cells slots Q (cw z a u w P F T N C D M) (pc + 1) lv (.int (nI (D.2.2.1 k)) :: sk)) : V p l e R s m args below meth c (Gz z) nL cells slots Q (cw z a u w P F T N C D M) pc lv (.int (nI k) :: .ref (w 3) :: sk) := V.iald X 29 0 rfl rfl hk (by decide) hd kk
theorem s_Cd_seconds (X : Cx p s m args meth c (Gz z) cc nL ret own) {k : Nat} {x : Nat} (hk : k < 300) (hd : decode cc pc = .ok (.iastore, 1)) (kk : V p l e R s m args below meth c (Gz z) nL cells slots Q (cw z a u w P F T N C (D.1, D.2.1, (va_up D.2.2.1 k x), D.2.2.2.1, D.2.2.2.2.1, D.2.2.2.2.2.1, D.2.2.2.2.2.2.1, D.2.2.2.2.2.2.2) M) (pc + 1) lv sk) : V p l e R s m args below meth c (Gz z) nL cells slots Q (cw z a u w P F T N C D M) pc lv (.int (nI x) :: .int (nI k) :: .ref (w 3) :: sk) := V.iastN X 29 0 rfl rfl hk (by decide) rfl hd kk
theorem l_Cd_entries (X : Cx p s m args meth c (Gz z) cc nL ret own) {k : Nat} (hk : k < 6) (hd : decode cc pc = .ok (.iaload, 1)) (kk : V p l e R s m args below meth c (Gz z) nL cells slots Q (cw z a u w P F T N C D M) (pc + 1) lv (.int (nI (D.2.2.2.1 k)) :: sk)) : V p l e R s m args below meth c (Gz z) nL cells slots Q (cw z a u w P F T N C D M) pc lv (.int (nI k) :: .ref (w 4) :: sk) := V.iald X 30 0 rfl rfl hk (by decide) hd kk
theorem s_Cd_entries (X : Cx p s m args meth c (Gz z) cc nL ret own) {k : Nat} {x : Nat} (hk : k < 6) (hd : decode cc pc = .ok (.iastore, 1)) (kk : V p l e R s m args below meth c (Gz z) nL cells slots Q (cw z a u w P F T N C (D.1, D.2.1, D.2.2.1, (va_up D.2.2.2.1 k x), D.2.2.2.2.1, D.2.2.2.2.2.1, D.2.2.2.2.2.2.1, D.2.2.2.2.2.2.2) M) (pc + 1) lv sk) : V p l e R s m args below meth c (Gz z) nL cells slots Q (cw z a u w P F T N C D M) pc lv (.int (nI x) :: .int (nI k) :: .ref (w 4) :: sk) := V.iastN X 30 0 rfl rfl hk (by decide) rfl hd kk
theorem l_Cd_parameters (X : Cx p s m args meth c (Gz z) cc nL ret own) {k : Nat} (hk : k < 6) (hd : decode cc pc = .ok (.iaload, 1)) (kk : V p l e R s m args below meth c (Gz z) nL cells slots Q (cw z a u w P F T N C D M) (pc + 1) lv (.int (nI (D.2.2.2.2.1 k)) :: sk)) : V p l e R s m args below meth c (Gz z) nL cells slots Q (cw z a u w P F T N C D M) pc lv (.int (nI k) :: .ref (w 5) :: sk) := V.iald X 31 0 rfl rfl hk (by decide) hd kk
theorem s_Cd_parameters (X : Cx p s m args meth c (Gz z) cc nL ret own) {k : Nat} {x : Nat} (hk : k < 6) (hd : decode cc pc = .ok (.iastore, 1)) (kk : V p l e R s m args below meth c (Gz z) nL cells slots Q (cw z a u w P F T N C (D.1, D.2.1, D.2.2.1, D.2.2.2.1, (va_up D.2.2.2.2.1 k x), D.2.2.2.2.2.1, D.2.2.2.2.2.2.1, D.2.2.2.2.2.2.2) M) (pc + 1) lv sk) : V p l e R s m args below meth c (Gz z) nL cells slots Q (cw z a u w P F T N C D M) pc lv (.int (nI x) :: .int (nI k) :: .ref (w 5) :: sk) := V.iastN X 31 0 rfl rfl hk (by decide) rfl hd kk
theorem l_Cd_references (X : Cx p s m args meth c (Gz z) cc nL ret own) {k : Nat} (hk : k < 6) (hd : decode cc pc = .ok (.iaload, 1)) (kk : V p l e R s m args below meth c (Gz z) nL cells slots Q (cw z a u w P F T N C D M) (pc + 1) lv (.int (nI (D.2.2.2.2.2.1 k)) :: sk)) : V p l e R s m args below meth c (Gz z) nL cells slots Q (cw z a u w P F T N C D M) pc lv (.int (nI k) :: .ref (w 6) :: sk) := V.iald X 32 0 rfl rfl hk (by decide) hd kk
theorem s_Cd_references (X : Cx p s m args meth c (Gz z) cc nL ret own) {k : Nat} {x : Nat} (hk : k < 6) (hd : decode cc pc = .ok (.iastore, 1)) (kk : V p l e R s m args below meth c (Gz z) nL cells slots Q (cw z a u w P F T N C (D.1, D.2.1, D.2.2.1, D.2.2.2.1, D.2.2.2.2.1, (va_up D.2.2.2.2.2.1 k x), D.2.2.2.2.2.2.1, D.2.2.2.2.2.2.2) M) (pc + 1) lv sk) : V p l e R s m args below meth c (Gz z) nL cells slots Q (cw z a u w P F T N C D M) pc lv (.int (nI x) :: .int (nI k) :: .ref (w 6) :: sk) := V.iastN X 32 0 rfl rfl hk (by decide) rfl hd kk
end VW
end
section
/-! ===== the throws ===== -/
section VX0
variable {p : Program} {l : Launch} {e : Env} {s : State} {m : MethodId} {args : Array Value} {below : List Frame} {meth : Method} {c : Code} {z : Zt} {nL h : Nat} {ws ws' : va_W} {pc : Nat} {lv : List (Nat × Value)} {sk : List Value} {cc : ByteArray} {ret : Option FieldType}
theorem x_PM_41 (X : Cx p s m args meth c (Gz z) cc nL ret "PascalMachine") (hlt : l.stackTraces = false) (d0 : decode cc pc = .ok (.new 39, 3)) (d3 : decode cc (pc + 3) = .ok (.dup, 1)) (d4 : decode cc (pc + 4) = .ok (.invokespecial 41, 3)) (d7 : decode cc (pc + 7) = .ok (.athrow, 1)) (hsk : Nat.ble (sk.map fun v => v.category).sum 8 = true) {o : Oc} (ho : o = .inr "java/lang/IllegalArgumentException") (hw : ws = ws') : V p l e (Rm h) s m args below meth c (Gz z) nL 0 0 (XE below (Gz z) o ws' args s) ws pc lv sk :=
  V.throw0 (names := xN) X hlt (by decide +kernel) (by decide +kernel) k_PM_39 ki_IllegalArgumentException oa_PM_41 d0 d3 d4 d7 (by show 2 + 3 < h + 8; omega) (by have := Nat.le_of_ble_eq_true hsk; show _ + (13 * (2 + 1) + 42) ≤ 40 * h + 200; omega) (by show 1 ≤ 1; decide) (by show 6 ≤ 6; decide) ho hw
theorem x_PM_44 (X : Cx p s m args meth c (Gz z) cc nL ret "PascalMachine") (hlt : l.stackTraces = false) (d0 : decode cc pc = .ok (.new 42, 3)) (d3 : decode cc (pc + 3) = .ok (.dup, 1)) (d4 : decode cc (pc + 4) = .ok (.invokespecial 44, 3)) (d7 : decode cc (pc + 7) = .ok (.athrow, 1)) (hsk : Nat.ble (sk.map fun v => v.category).sum 8 = true) {o : Oc} (ho : o = .inr "java/lang/IllegalStateException") (hw : ws = ws') : V p l e (Rm h) s m args below meth c (Gz z) nL 0 0 (XE below (Gz z) o ws' args s) ws pc lv sk :=
  V.throw0 (names := xN) X hlt (by decide +kernel) (by decide +kernel) k_PM_42 ki_IllegalStateException oa_PM_44 d0 d3 d4 d7 (by show 2 + 3 < h + 8; omega) (by have := Nat.le_of_ble_eq_true hsk; show _ + (13 * (2 + 1) + 42) ≤ 40 * h + 200; omega) (by show 1 ≤ 1; decide) (by show 6 ≤ 6; decide) ho hw
theorem x_PM_65 (X : Cx p s m args meth c (Gz z) cc nL ret "PascalMachine") (hlt : l.stackTraces = false) (d0 : decode cc pc = .ok (.new 63, 3)) (d3 : decode cc (pc + 3) = .ok (.dup, 1)) (d4 : decode cc (pc + 4) = .ok (.invokespecial 65, 3)) (d7 : decode cc (pc + 7) = .ok (.athrow, 1)) (hsk : Nat.ble (sk.map fun v => v.category).sum 8 = true) {o : Oc} (ho : o = .inr "java/util/NoSuchElementException") (hw : ws = ws') : V p l e (Rm h) s m args below meth c (Gz z) nL 0 0 (XE below (Gz z) o ws' args s) ws pc lv sk :=
  V.throw0 (names := xN) X hlt (by decide +kernel) (by decide +kernel) k_PM_63 ki_NoSuchElementException oa_PM_65 d0 d3 d4 d7 (by show 2 + 3 < h + 8; omega) (by have := Nat.le_of_ble_eq_true hsk; show _ + (13 * (2 + 1) + 42) ≤ 40 * h + 200; omega) (by show 1 ≤ 1; decide) (by show 6 ≤ 6; decide) ho hw
theorem x_Cp_83 (X : Cx p s m args meth c (Gz z) cc nL ret "PascalMachine$Compiler") (hlt : l.stackTraces = false) (d0 : decode cc pc = .ok (.new 81, 3)) (d3 : decode cc (pc + 3) = .ok (.dup, 1)) (d4 : decode cc (pc + 4) = .ok (.invokespecial 83, 3)) (d7 : decode cc (pc + 7) = .ok (.athrow, 1)) (hsk : Nat.ble (sk.map fun v => v.category).sum 8 = true) {o : Oc} (ho : o = .inr "java/lang/IllegalArgumentException") (hw : ws = ws') : V p l e (Rm h) s m args below meth c (Gz z) nL 0 0 (XE below (Gz z) o ws' args s) ws pc lv sk :=
  V.throw0 (names := xN) X hlt (by decide +kernel) (by decide +kernel) k_Cp_81 ki_IllegalArgumentException oa_Cp_83 d0 d3 d4 d7 (by show 2 + 3 < h + 8; omega) (by have := Nat.le_of_ble_eq_true hsk; show _ + (13 * (2 + 1) + 42) ≤ 40 * h + 200; omega) (by show 1 ≤ 1; decide) (by show 6 ≤ 6; decide) ho hw
theorem x_Mc_122 (X : Cx p s m args meth c (Gz z) cc nL ret "PascalMachine$Machine") (hlt : l.stackTraces = false) (d0 : decode cc pc = .ok (.new 120, 3)) (d3 : decode cc (pc + 3) = .ok (.dup, 1)) (d4 : decode cc (pc + 4) = .ok (.invokespecial 122, 3)) (d7 : decode cc (pc + 7) = .ok (.athrow, 1)) (hsk : Nat.ble (sk.map fun v => v.category).sum 8 = true) {o : Oc} (ho : o = .inr "java/lang/IllegalStateException") (hw : ws = ws') : V p l e (Rm h) s m args below meth c (Gz z) nL 0 0 (XE below (Gz z) o ws' args s) ws pc lv sk :=
  V.throw0 (names := xN) X hlt (by decide +kernel) (by decide +kernel) k_Mc_120 ki_IllegalStateException oa_Mc_122 d0 d3 d4 d7 (by show 2 + 3 < h + 8; omega) (by have := Nat.le_of_ble_eq_true hsk; show _ + (13 * (2 + 1) + 42) ≤ 40 * h + 200; omega) (by show 1 ≤ 1; decide) (by show 6 ≤ 6; decide) ho hw
theorem x_Mc_137 (X : Cx p s m args meth c (Gz z) cc nL ret "PascalMachine$Machine") (hlt : l.stackTraces = false) (d0 : decode cc pc = .ok (.new 135, 3)) (d3 : decode cc (pc + 3) = .ok (.dup, 1)) (d4 : decode cc (pc + 4) = .ok (.invokespecial 137, 3)) (d7 : decode cc (pc + 7) = .ok (.athrow, 1)) (hsk : Nat.ble (sk.map fun v => v.category).sum 8 = true) {o : Oc} (ho : o = .inr "java/lang/ArithmeticException") (hw : ws = ws') : V p l e (Rm h) s m args below meth c (Gz z) nL 0 0 (XE below (Gz z) o ws' args s) ws pc lv sk :=
  V.throw0 (names := xN) X hlt (by decide +kernel) (by decide +kernel) k_Mc_135 ki_ArithmeticException oa_Mc_137 d0 d3 d4 d7 (by show 2 + 3 < h + 8; omega) (by have := Nat.le_of_ble_eq_true hsk; show _ + (13 * (2 + 1) + 42) ≤ 40 * h + 200; omega) (by show 1 ≤ 1; decide) (by show 6 ≤ 6; decide) ho hw
theorem x_Mc_140 (X : Cx p s m args meth c (Gz z) cc nL ret "PascalMachine$Machine") (hlt : l.stackTraces = false) (d0 : decode cc pc = .ok (.new 138, 3)) (d3 : decode cc (pc + 3) = .ok (.dup, 1)) (d4 : decode cc (pc + 4) = .ok (.invokespecial 140, 3)) (d7 : decode cc (pc + 7) = .ok (.athrow, 1)) (hsk : Nat.ble (sk.map fun v => v.category).sum 8 = true) {o : Oc} (ho : o = .inr "java/lang/IndexOutOfBoundsException") (hw : ws = ws') : V p l e (Rm h) s m args below meth c (Gz z) nL 0 0 (XE below (Gz z) o ws' args s) ws pc lv sk :=
  V.throw0 (names := xN) X hlt (by decide +kernel) (by decide +kernel) k_Mc_138 ki_IndexOutOfBoundsException oa_Mc_140 d0 d3 d4 d7 (by show 2 + 3 < h + 8; omega) (by have := Nat.le_of_ble_eq_true hsk; show _ + (13 * (2 + 1) + 42) ≤ 40 * h + 200; omega) (by show 1 ≤ 1; decide) (by show 6 ≤ 6; decide) ho hw
end VX0
end
section
/-! ===== Names ===== -/
def jI : Nat → Int32
  | 0 => -1
  | j + 1 => nI j
theorem jI_sub (k : Nat) : nI k - nI 1 = jI k := by
  cases k with
  | zero => decide +kernel
  | succ j => exact nI_pred j
theorem jI_dec (k : Nat) : nI k + Int32.ofInt (-1) = jI k := by
  cases k with
  | zero => decide +kernel
  | succ j => exact pk_m1 j
def fI : Option Nat → Int32
  | none => -1
  | some k => nI k
theorem lg_eq0 {x y : Int64} : lg_cmp x y = 0 ↔ x = y := by
  unfold lg_cmp
  constructor
  · intro h
    split at h
    · exact absurd h (by decide)
    · split at h
      · assumption
      · exact absurd h (by decide)
  · intro h
    subst h
    rw [if_neg (by simp), if_pos rfl]
def nm_clear (N : Nm) : Nm := (N.1, N.2.1, N.2.2.1, N.2.2.2.1, va_up N.2.2.2.2.1 0 0, 0, 0, 0, 0)
set_option maxHeartbeats 4000000 in
set_option maxRecDepth 100000 in
theorem c_Nm_clear {l : Launch} {z : Zt} {a u w : Nat → Nat} {P : Pm} {F : Int32} {T : Tk} {N : Nm} {C D : Co} {M : Mc} (h : Nat)  : XC l (Gz z) (h) y_Nm_clear b_Nm_clear 1 none [.ref (a 7)] (cw z a u w P F T N C D M) (.inl none) (cw z a u w P F T (nm_clear N) C D M) := by
  refine XC.ofV (by decide +kernel) rfl ?_
  intro p e s m below meth c X hnm
  refine V.lvs (lv' := [(0, .ref (a 7))]) rfl ?_
  refine V.aload_n X d_Nm_clear_0 rfl ?_
  refine V.iconst (v := nI 0) X d_Nm_clear_1 (by decide +kernel) ?_
  refine p_Nm_known X k_Nm_28 d_Nm_clear_2 ?_
  refine V.aload_n X d_Nm_clear_5 rfl ?_
  refine V.iconst (v := nI 0) X d_Nm_clear_6 (by decide +kernel) ?_
  refine p_Nm_level X k_Nm_32 d_Nm_clear_7 ?_
  refine V.aload_n X d_Nm_clear_10 rfl ?_
  refine g_Nm_slots X k_Nm_25 d_Nm_clear_11 ?_
  refine V.aload_n X d_Nm_clear_14 rfl ?_
  refine g_Nm_level X k_Nm_32 d_Nm_clear_15 ?_
  refine V.iconst (v := nI 0) X d_Nm_clear_18 (by decide +kernel) ?_
  refine s_Nm_slots X (by first | omega | (dsimp only; omega) | (simp only [] at *; omega)) d_Nm_clear_19 ?_
  refine V.aload_n X d_Nm_clear_20 rfl ?_
  refine V.iconst (v := nI 0) X d_Nm_clear_21 (by decide +kernel) ?_
  refine p_Nm_variables X k_Nm_35 d_Nm_clear_22 ?_
  refine V.aload_n X d_Nm_clear_25 rfl ?_
  refine V.iconst (v := nI 0) X d_Nm_clear_26 (by decide +kernel) ?_
  refine p_Nm_procedures X k_Nm_38 d_Nm_clear_27 ?_
  exact V.vret X d_Nm_clear_30 rfl rfl
set_option maxHeartbeats 4000000 in
set_option maxRecDepth 100000 in
theorem c_Nm_declared {l : Launch} {z : Zt} {a u w : Nat → Nat} {P : Pm} {F : Int32} {T : Tk} {N : Nm} {C D : Co} {M : Mc} (h : Nat)  : XC l (Gz z) (h) y_Nm_declared b_Nm_declared 1 (some .int) [.ref (a 7)] (cw z a u w P F T N C D M) (.inl (some (.int (nI (N.2.2.2.2.2.2.2.1 + N.2.2.2.2.2.2.2.2))))) (cw z a u w P F T N C D M) := by
  refine XC.ofV (by decide +kernel) rfl ?_
  intro p e s m below meth c X hnm
  refine V.lvs (lv' := [(0, .ref (a 7))]) rfl ?_
  refine V.aload_n X d_Nm_declared_0 rfl ?_
  refine g_Nm_variables X k_Nm_35 d_Nm_declared_1 ?_
  refine V.aload_n X d_Nm_declared_4 rfl ?_
  refine g_Nm_procedures X k_Nm_38 d_Nm_declared_5 ?_
  refine V.iadd X d_Nm_declared_8 (nI_add _ _) ?_
  exact V.iret X d_Nm_declared_9 rfl rfl
def nm_open (N : Nm) : Nm := if 3 ≤ N.2.2.2.2.2.2.1 then N else (N.1, N.2.1, N.2.2.1, N.2.2.2.1, va_up N.2.2.2.2.1 (N.2.2.2.2.2.2.1 + 1) 0, N.2.2.2.2.2.1, N.2.2.2.2.2.2.1 + 1, N.2.2.2.2.2.2.2.1, N.2.2.2.2.2.2.2.2)
set_option maxHeartbeats 4000000 in
set_option maxRecDepth 100000 in
theorem c_Nm_open {l : Launch} {z : Zt} {a u w : Nat → Nat} {P : Pm} {F : Int32} {T : Tk} {N : Nm} {C D : Co} {M : Mc} (h : Nat) (hl : N.2.2.2.2.2.2.1 < 2 ^ 31) : XC l (Gz z) (h) y_Nm_open b_Nm_open 1 none [.ref (a 7)] (cw z a u w P F T N C D M) (.inl none) (cw z a u w P F T (nm_open N) C D M) := by
  refine XC.ofV (by decide +kernel) rfl ?_
  intro p e s m below meth c X hnm
  refine V.lvs (lv' := [(0, .ref (a 7))]) rfl ?_
  refine V.aload_n X d_Nm_open_0 rfl ?_
  refine g_Nm_level X k_Nm_32 d_Nm_open_1 ?_
  refine V.iconst (v := nI 3) X d_Nm_open_4 (by decide +kernel) ?_
  refine V.cmpN_ge (tgt := 28) X d_Nm_open_5 (by decide) (by first | omega | (dsimp only; omega) | (simp only [] at *; omega)) (by first | omega | (dsimp only; omega) | (simp only [] at *; omega)) (fun h5 => ?_) (fun h5 => ?_)
  · exact V.vret X d_Nm_open_28 rfl (by rw [nm_open]; first | rw [if_pos h5] | rw [if_neg (Nat.not_le.mpr h5)])
  · refine V.aload_n X d_Nm_open_8 rfl ?_
    refine V.dup X d_Nm_open_9 rfl ?_
    refine g_Nm_level X k_Nm_32 d_Nm_open_10 ?_
    refine V.iconst (v := nI 1) X d_Nm_open_13 (by decide +kernel) ?_
    refine V.iadd X d_Nm_open_14 (nI_add _ _) ?_
    refine p_Nm_level X k_Nm_32 d_Nm_open_15 ?_
    refine V.aload_n X d_Nm_open_18 rfl ?_
    refine g_Nm_slots X k_Nm_25 d_Nm_open_19 ?_
    refine V.aload_n X d_Nm_open_22 rfl ?_
    refine g_Nm_level X k_Nm_32 d_Nm_open_23 ?_
    refine V.iconst (v := nI 0) X d_Nm_open_26 (by decide +kernel) ?_
    refine s_Nm_slots X (by first | omega | (dsimp only; omega) | (simp only [] at *; omega)) d_Nm_open_27 ?_
    exact V.vret X d_Nm_open_28 rfl (by rw [nm_open]; first | rw [if_pos h5] | rw [if_neg (Nat.not_le.mpr h5)])
set_option maxHeartbeats 4000000 in
set_option maxRecDepth 100000 in
theorem c_Nm_isProcedure {l : Launch} {z : Zt} {a u w : Nat → Nat} {P : Pm} {F : Int32} {T : Tk} {N : Nm} {C D : Co} {M : Mc} (h : Nat) {k : Nat} (hk : k < 18) (hb : N.2.1 k < 2 ^ 31) : XC l (Gz z) (h) y_Nm_isProcedure b_Nm_isProcedure 2 (some .boolean) [.ref (a 7), .int (nI k)] (cw z a u w P F T N C D M) (.inl (some (.int (bI (decide (N.2.1 k = 2)))))) (cw z a u w P F T N C D M) := by
  refine XC.ofV (by decide +kernel) rfl ?_
  intro p e s m below meth c X hnm
  refine V.lvs (lv' := [(0, .ref (a 7)), (1, .int (nI k))]) rfl ?_
  refine V.aload_n X d_Nm_isProcedure_0 rfl ?_
  refine g_Nm_kinds X k_Nm_15 d_Nm_isProcedure_1 ?_
  refine V.iload_n X d_Nm_isProcedure_4 rfl ?_
  refine l_Nm_kinds X (by first | omega | (dsimp only; omega) | (simp only [] at *; omega)) d_Nm_isProcedure_5 ?_
  refine V.iconst (v := nI 2) X d_Nm_isProcedure_6 (by decide +kernel) ?_
  refine V.cmpN_ne (tgt := 14) X d_Nm_isProcedure_7 (by decide) (by first | omega | (dsimp only; omega) | (simp only [] at *; omega)) (by first | omega | (dsimp only; omega) | (simp only [] at *; omega)) (fun h7 => ?_) (fun h7 => ?_)
  · refine V.iconst (v := nI 0) X d_Nm_isProcedure_14 (by decide +kernel) ?_
    exact V.zret X d_Nm_isProcedure_15 (by first | exact Or.inl rfl | exact Or.inr rfl | (unfold bI; split; exact Or.inr rfl; exact Or.inl rfl)) (by rw [bI]; simp [h7]) rfl
  · refine V.iconst (v := nI 1) X d_Nm_isProcedure_10 (by decide +kernel) ?_
    refine V.goto (tgt := 15) X d_Nm_isProcedure_11 (by decide) ?_
    exact V.zret X d_Nm_isProcedure_15 (by first | exact Or.inl rfl | exact Or.inr rfl | (unfold bI; split; exact Or.inr rfl; exact Or.inl rfl)) (by rw [bI]; simp [h7]) rfl
set_option maxHeartbeats 4000000 in
set_option maxRecDepth 100000 in
theorem c_Nm_isReference {l : Launch} {z : Zt} {a u w : Nat → Nat} {P : Pm} {F : Int32} {T : Tk} {N : Nm} {C D : Co} {M : Mc} (h : Nat) {k : Nat} (hk : k < 18) (hb : N.2.1 k < 2 ^ 31) : XC l (Gz z) (h) y_Nm_isReference b_Nm_isReference 2 (some .boolean) [.ref (a 7), .int (nI k)] (cw z a u w P F T N C D M) (.inl (some (.int (bI (decide (N.2.1 k = 1)))))) (cw z a u w P F T N C D M) := by
  refine XC.ofV (by decide +kernel) rfl ?_
  intro p e s m below meth c X hnm
  refine V.lvs (lv' := [(0, .ref (a 7)), (1, .int (nI k))]) rfl ?_
  refine V.aload_n X d_Nm_isReference_0 rfl ?_
  refine g_Nm_kinds X k_Nm_15 d_Nm_isReference_1 ?_
  refine V.iload_n X d_Nm_isReference_4 rfl ?_
  refine l_Nm_kinds X (by first | omega | (dsimp only; omega) | (simp only [] at *; omega)) d_Nm_isReference_5 ?_
  refine V.iconst (v := nI 1) X d_Nm_isReference_6 (by decide +kernel) ?_
  refine V.cmpN_ne (tgt := 14) X d_Nm_isReference_7 (by decide) (by first | omega | (dsimp only; omega) | (simp only [] at *; omega)) (by first | omega | (dsimp only; omega) | (simp only [] at *; omega)) (fun h7 => ?_) (fun h7 => ?_)
  · refine V.iconst (v := nI 0) X d_Nm_isReference_14 (by decide +kernel) ?_
    exact V.zret X d_Nm_isReference_15 (by first | exact Or.inl rfl | exact Or.inr rfl | (unfold bI; split; exact Or.inr rfl; exact Or.inl rfl)) (by rw [bI]; simp [h7]) rfl
  · refine V.iconst (v := nI 1) X d_Nm_isReference_10 (by decide +kernel) ?_
    refine V.goto (tgt := 15) X d_Nm_isReference_11 (by decide) ?_
    exact V.zret X d_Nm_isReference_15 (by first | exact Or.inl rfl | exact Or.inr rfl | (unfold bI; split; exact Or.inr rfl; exact Or.inl rfl)) (by rw [bI]; simp [h7]) rfl
set_option maxHeartbeats 4000000 in
set_option maxRecDepth 100000 in
theorem c_Nm_hops {l : Launch} {z : Zt} {a u w : Nat → Nat} {P : Pm} {F : Int32} {T : Tk} {N : Nm} {C D : Co} {M : Mc} (h : Nat) {k : Nat} (hk : k < 18) (hb : N.2.2.1 k ≤ N.2.2.2.2.2.2.1) : XC l (Gz z) (h) y_Nm_hops b_Nm_hops 2 (some .int) [.ref (a 7), .int (nI k)] (cw z a u w P F T N C D M) (.inl (some (.int (nI (N.2.2.2.2.2.2.1 - N.2.2.1 k))))) (cw z a u w P F T N C D M) := by
  refine XC.ofV (by decide +kernel) rfl ?_
  intro p e s m below meth c X hnm
  refine V.lvs (lv' := [(0, .ref (a 7)), (1, .int (nI k))]) rfl ?_
  refine V.aload_n X d_Nm_hops_0 rfl ?_
  refine g_Nm_level X k_Nm_32 d_Nm_hops_1 ?_
  refine V.aload_n X d_Nm_hops_4 rfl ?_
  refine g_Nm_levels X k_Nm_19 d_Nm_hops_5 ?_
  refine V.iload_n X d_Nm_hops_8 rfl ?_
  refine l_Nm_levels X (by first | omega | (dsimp only; omega) | (simp only [] at *; omega)) d_Nm_hops_9 ?_
  refine V.isub X d_Nm_hops_10 (pk_sub (by first | omega | (dsimp only; omega) | (simp only [] at *; omega))) ?_
  exact V.iret X d_Nm_hops_11 rfl rfl
set_option maxHeartbeats 4000000 in
set_option maxRecDepth 100000 in
theorem c_Nm_number {l : Launch} {z : Zt} {a u w : Nat → Nat} {P : Pm} {F : Int32} {T : Tk} {N : Nm} {C D : Co} {M : Mc} (h : Nat) {k : Nat} (hk : k < 18) : XC l (Gz z) (h) y_Nm_number b_Nm_number 2 (some .int) [.ref (a 7), .int (nI k)] (cw z a u w P F T N C D M) (.inl (some (.int (nI (N.2.2.2.1 k))))) (cw z a u w P F T N C D M) := by
  refine XC.ofV (by decide +kernel) rfl ?_
  intro p e s m below meth c X hnm
  refine V.lvs (lv' := [(0, .ref (a 7)), (1, .int (nI k))]) rfl ?_
  refine V.aload_n X d_Nm_number_0 rfl ?_
  refine g_Nm_numbers X k_Nm_22 d_Nm_number_1 ?_
  refine V.iload_n X d_Nm_number_4 rfl ?_
  refine l_Nm_numbers X (by first | omega | (dsimp only; omega) | (simp only [] at *; omega)) d_Nm_number_5 ?_
  exact V.iret X d_Nm_number_6 rfl rfl
set_option maxHeartbeats 4000000 in
set_option maxRecDepth 100000 in
theorem c_Nm_lastProcedure {l : Launch} {z : Zt} {a u w : Nat → Nat} {P : Pm} {F : Int32} {T : Tk} {N : Nm} {C D : Co} {M : Mc} (h : Nat) (hb : 1 ≤ N.2.2.2.2.2.2.2.2) : XC l (Gz z) (h) y_Nm_lastProcedure b_Nm_lastProcedure 1 (some .int) [.ref (a 7)] (cw z a u w P F T N C D M) (.inl (some (.int (nI (N.2.2.2.2.2.2.2.2 - 1))))) (cw z a u w P F T N C D M) := by
  refine XC.ofV (by decide +kernel) rfl ?_
  intro p e s m below meth c X hnm
  refine V.lvs (lv' := [(0, .ref (a 7))]) rfl ?_
  refine V.aload_n X d_Nm_lastProcedure_0 rfl ?_
  refine g_Nm_procedures X k_Nm_38 d_Nm_lastProcedure_1 ?_
  refine V.iconst (v := nI 1) X d_Nm_lastProcedure_4 (by decide +kernel) ?_
  refine V.isub X d_Nm_lastProcedure_5 (pk_sub (by first | omega | (dsimp only; omega) | (simp only [] at *; omega))) ?_
  exact V.iret X d_Nm_lastProcedure_6 rfl rfl
def nm_full (N : Nm) (k : Nat) : Bool := if k = 2 then decide (N.2.2.2.2.2.2.2.2 = 6) else decide (N.2.2.2.2.2.2.2.1 = 12)
set_option maxHeartbeats 4000000 in
set_option maxRecDepth 100000 in
theorem c_Nm_isFull {l : Launch} {z : Zt} {a u w : Nat → Nat} {P : Pm} {F : Int32} {T : Tk} {N : Nm} {C D : Co} {M : Mc} (h : Nat) {k : Nat} (hk : k < 2 ^ 31) (h1 : N.2.2.2.2.2.2.2.2 < 2 ^ 31) (h2 : N.2.2.2.2.2.2.2.1 < 2 ^ 31) : XC l (Gz z) (h) y_Nm_isFull b_Nm_isFull 2 (some .boolean) [.ref (a 7), .int (nI k)] (cw z a u w P F T N C D M) (.inl (some (.int (bI (nm_full N k))))) (cw z a u w P F T N C D M) := by
  refine XC.ofV (by decide +kernel) rfl ?_
  intro p e s m below meth c X hnm
  refine V.lvs (lv' := [(0, .ref (a 7)), (1, .int (nI k))]) rfl ?_
  refine V.iload_n X d_Nm_isFull_0 rfl ?_
  refine V.iconst (v := nI 2) X d_Nm_isFull_1 (by decide +kernel) ?_
  refine V.cmpN_ne (tgt := 22) X d_Nm_isFull_2 (by decide) (by first | omega | (dsimp only; omega) | (simp only [] at *; omega)) (by first | omega | (dsimp only; omega) | (simp only [] at *; omega)) (fun h2 => ?_) (fun h2 => ?_)
  · refine V.aload_n X d_Nm_isFull_22 rfl ?_
    refine g_Nm_variables X k_Nm_35 d_Nm_isFull_23 ?_
    refine V.bipush (v := nI 12) X d_Nm_isFull_26 (by decide +kernel) ?_
    refine V.cmpN_ne (tgt := 35) X d_Nm_isFull_28 (by decide) (by first | omega | (dsimp only; omega) | (simp only [] at *; omega)) (by first | omega | (dsimp only; omega) | (simp only [] at *; omega)) (fun h28 => ?_) (fun h28 => ?_)
    · refine V.iconst (v := nI 0) X d_Nm_isFull_35 (by decide +kernel) ?_
      exact V.zret X d_Nm_isFull_36 (by first | exact Or.inl rfl | exact Or.inr rfl | (unfold bI; split; exact Or.inr rfl; exact Or.inl rfl)) (by simp [bI, nm_full, *]) rfl
    · refine V.iconst (v := nI 1) X d_Nm_isFull_31 (by decide +kernel) ?_
      refine V.goto (tgt := 36) X d_Nm_isFull_32 (by decide) ?_
      exact V.zret X d_Nm_isFull_36 (by first | exact Or.inl rfl | exact Or.inr rfl | (unfold bI; split; exact Or.inr rfl; exact Or.inl rfl)) (by simp [bI, nm_full, *]) rfl
  · refine V.aload_n X d_Nm_isFull_5 rfl ?_
    refine g_Nm_procedures X k_Nm_38 d_Nm_isFull_6 ?_
    refine V.bipush (v := nI 6) X d_Nm_isFull_9 (by decide +kernel) ?_
    refine V.cmpN_ne (tgt := 18) X d_Nm_isFull_11 (by decide) (by first | omega | (dsimp only; omega) | (simp only [] at *; omega)) (by first | omega | (dsimp only; omega) | (simp only [] at *; omega)) (fun h11 => ?_) (fun h11 => ?_)
    · refine V.iconst (v := nI 0) X d_Nm_isFull_18 (by decide +kernel) ?_
      refine V.goto (tgt := 36) X d_Nm_isFull_19 (by decide) ?_
      exact V.zret X d_Nm_isFull_36 (by first | exact Or.inl rfl | exact Or.inr rfl | (unfold bI; split; exact Or.inr rfl; exact Or.inl rfl)) (by simp [bI, nm_full, *]) rfl
    · refine V.iconst (v := nI 1) X d_Nm_isFull_14 (by decide +kernel) ?_
      refine V.goto (tgt := 36) X d_Nm_isFull_15 (by decide) ?_
      exact V.zret X d_Nm_isFull_36 (by first | exact Or.inl rfl | exact Or.inr rfl | (unfold bI; split; exact Or.inr rfl; exact Or.inl rfl)) (by simp [bI, nm_full, *]) rfl
def nm_findAt (N : Nm) (v : Int64) : Nat → Option Nat
  | 0 => none
  | j + 1 => if N.1 j = v then some j else nm_findAt N v j
def nm_find (N : Nm) (v : Int64) : Option Nat := nm_findAt N v N.2.2.2.2.2.1
set_option maxHeartbeats 4000000 in
set_option maxRecDepth 100000 in
theorem c_Nm_find {l : Launch} {z : Zt} {a u w : Nat → Nat} {P : Pm} {F : Int32} {T : Tk} {N : Nm} {C D : Co} {M : Mc} (h : Nat) {v : Int64} (hk : N.2.2.2.2.2.1 ≤ 18) : XC l (Gz z) (h) y_Nm_find b_Nm_find 4 (some .int) [.ref (a 7), .long v] (cw z a u w P F T N C D M) (.inl (some (.int (fI (nm_find N v))))) (cw z a u w P F T N C D M) := by
  refine XC.ofV (by decide +kernel) rfl ?_
  intro p e s m below meth c X hnm
  refine V.lvs (lv' := [(0, .ref (a 7)), (1, .long v)]) rfl ?_
  refine V.aload_n X d_Nm_find_0 rfl ?_
  refine g_Nm_known X k_Nm_28 d_Nm_find_1 ?_
  refine V.iconst (v := nI 1) X d_Nm_find_4 (by decide +kernel) ?_
  refine V.isub X d_Nm_find_5 (jI_sub _) ?_
  refine V.istore_n (lv' := [(0, _), (1, _), (3, _)]) X d_Nm_find_6 (by decide) rfl ?_
  suffices loop7 : ∀ j : Nat, j ≤ N.2.2.2.2.2.1 → V p l e (Rm (h)) s m ([.ref (a 7), .long v] : List Value).toArray below meth c (Gz z) 4 0 0 (XE below (Gz z) (.inl (some (.int (fI (nm_findAt N v j))))) (cw z a u w P F T N C D M) ([.ref (a 7), .long v] : List Value).toArray s) (cw z a u w P F T N C D M) 7 [(0, .ref (a 7)), (1, .long v), (3, .int (jI j))] [] from loop7 N.2.2.2.2.2.1 (Nat.le_refl _)
  intro j
  induction j with
  | zero =>
    intro hj
    refine V.lvs (lv' := [(0, .ref (a 7)), (1, .long v), (3, .int (-1))]) rfl ?_
    refine V.iload_n X d_Nm_find_7 rfl ?_
    refine V.if_lt (tgt := 30) X d_Nm_find_8 (by decide) (fun _ => ?_) (fun h => absurd (by decide) h)
    refine V.iconst (v := -1) X d_Nm_find_30 (by decide +kernel) ?_
    exact V.iret X d_Nm_find_31 rfl rfl
  | succ j ih =>
    intro hj
    refine V.lvs (lv' := [(0, .ref (a 7)), (1, .long v), (3, .int (nI j))]) rfl ?_
    refine V.iload_n X d_Nm_find_7 rfl ?_
    refine V.ifN_lt (tgt := 30) X d_Nm_find_8 (by decide) (by first | omega | (dsimp only; omega) | (simp only [] at *; omega)) ?_
    refine V.aload_n X d_Nm_find_11 rfl ?_
    refine g_Nm_words X k_Nm_9 d_Nm_find_12 ?_
    refine V.iload_n X d_Nm_find_15 rfl ?_
    refine l_Nm_words X (by first | omega | (dsimp only; omega) | (simp only [] at *; omega)) d_Nm_find_16 ?_
    refine V.lload_n X d_Nm_find_17 rfl ?_
    refine V.lcmp X d_Nm_find_18 rfl ?_
    refine V.if_ne (tgt := 24) X d_Nm_find_19 (by decide) (fun h19 => ?_) (fun h19 => ?_)
    · rw [show nm_findAt N v (j + 1) = nm_findAt N v j from if_neg (fun q => h19 (lg_eq0.mpr q))]
      refine V.iinc (lv' := [(0, _), (1, _), (3, _)]) X d_Nm_find_24 rfl (jI_dec _) (by decide) rfl ?_
      refine V.goto (tgt := 7) X d_Nm_find_27 (by decide) ?_
      exact ih (by omega)
    · rw [show nm_findAt N v (j + 1) = some j from if_pos (lg_eq0.mp h19)]
      refine V.iload_n X d_Nm_find_22 rfl ?_
      exact V.iret X d_Nm_find_23 rfl rfl
def nm_cut (N : Nm) : Nat → Nat
  | 0 => 0
  | k + 1 => if N.2.2.1 k = N.2.2.2.2.2.2.1 then nm_cut N k else k + 1
def nm_close (N : Nm) : Nm := (N.1, N.2.1, N.2.2.1, N.2.2.2.1, N.2.2.2.2.1, nm_cut N N.2.2.2.2.2.1, N.2.2.2.2.2.2.1 - 1, N.2.2.2.2.2.2.2.1, N.2.2.2.2.2.2.2.2)
set_option maxHeartbeats 4000000 in
set_option maxRecDepth 100000 in
theorem c_Nm_close {l : Launch} {z : Zt} {a u w : Nat → Nat} {P : Pm} {F : Int32} {T : Tk} {N : Nm} {C D : Co} {M : Mc} (h : Nat) (hk : N.2.2.2.2.2.1 ≤ 18) (hl : ∀ i, N.2.2.1 i < 2 ^ 31) (h1 : 1 ≤ N.2.2.2.2.2.2.1) (h2 : N.2.2.2.2.2.2.1 < 2 ^ 31) : XC l (Gz z) (h) y_Nm_close b_Nm_close 1 none [.ref (a 7)] (cw z a u w P F T N C D M) (.inl none) (cw z a u w P F T (nm_close N) C D M) := by
  refine XC.ofV (by decide +kernel) rfl ?_
  intro p e s m below meth c X hnm
  refine V.lvs (lv' := [(0, .ref (a 7))]) rfl ?_
  suffices loop0 : ∀ k : Nat, k ≤ N.2.2.2.2.2.1 → V p l e (Rm (h)) s m ([.ref (a 7)] : List Value).toArray below meth c (Gz z) 1 0 0 (XE below (Gz z) (.inl none) (cw z a u w P F T (N.1, N.2.1, N.2.2.1, N.2.2.2.1, N.2.2.2.2.1, nm_cut N k, N.2.2.2.2.2.2.1 - 1, N.2.2.2.2.2.2.2.1, N.2.2.2.2.2.2.2.2) C D M) ([.ref (a 7)] : List Value).toArray s) (cw z a u w P F T (N.1, N.2.1, N.2.2.1, N.2.2.2.1, N.2.2.2.2.1, k, N.2.2.2.2.2.2.1, N.2.2.2.2.2.2.2.1, N.2.2.2.2.2.2.2.2) C D M) 0 [(0, .ref (a 7))] [] from loop0 N.2.2.2.2.2.1 (Nat.le_refl _)
  intro k
  induction k with
  | zero =>
    intro hj
    refine V.aload_n X d_Nm_close_0 rfl ?_
    refine g_Nm_known X k_Nm_28 d_Nm_close_1 ?_
    refine V.ifN_le (tgt := 38) X d_Nm_close_4 (by decide) (by first | omega | (dsimp only; omega) | (simp only [] at *; omega)) (fun h4 => ?_) (fun h4 => absurd h4 (fun q => q rfl))
    refine V.aload_n X d_Nm_close_38 rfl ?_
    refine V.dup X d_Nm_close_39 rfl ?_
    refine g_Nm_level X k_Nm_32 d_Nm_close_40 ?_
    refine V.iconst (v := nI 1) X d_Nm_close_43 (by decide +kernel) ?_
    refine V.isub X d_Nm_close_44 (pk_sub (by first | omega | (dsimp only; omega) | (simp only [] at *; omega))) ?_
    refine p_Nm_level X k_Nm_32 d_Nm_close_45 ?_
    exact V.vret X d_Nm_close_48 rfl rfl
  | succ k ih =>
    intro hj
    have hlk : N.2.2.1 (k + 1 - 1) < 2 ^ 31 := hl _
    refine V.aload_n X d_Nm_close_0 rfl ?_
    refine g_Nm_known X k_Nm_28 d_Nm_close_1 ?_
    refine V.ifN_le (tgt := 38) X d_Nm_close_4 (by decide) (by first | omega | (dsimp only; omega) | (simp only [] at *; omega)) (fun h4 => absurd h4 (by dsimp only; omega)) (fun h4 => ?_)
    refine V.aload_n X d_Nm_close_7 rfl ?_
    refine g_Nm_levels X k_Nm_19 d_Nm_close_8 ?_
    refine V.aload_n X d_Nm_close_11 rfl ?_
    refine g_Nm_known X k_Nm_28 d_Nm_close_12 ?_
    refine V.iconst (v := nI 1) X d_Nm_close_15 (by decide +kernel) ?_
    refine V.isub X d_Nm_close_16 (pk_sub (by first | omega | (dsimp only; omega) | (simp only [] at *; omega))) ?_
    refine l_Nm_levels X (by first | omega | (dsimp only; omega) | (simp only [] at *; omega)) d_Nm_close_17 ?_
    refine V.aload_n X d_Nm_close_18 rfl ?_
    refine g_Nm_level X k_Nm_32 d_Nm_close_19 ?_
    refine V.cmpN_ne (tgt := 38) X d_Nm_close_22 (by decide) (by first | omega | (dsimp only; omega) | (simp only [] at *; omega)) (by first | omega | (dsimp only; omega) | (simp only [] at *; omega)) (fun h22 => ?_) (fun h22 => ?_)
    · rw [show nm_cut N (k + 1) = k + 1 from if_neg h22]
      refine V.aload_n X d_Nm_close_38 rfl ?_
      refine V.dup X d_Nm_close_39 rfl ?_
      refine g_Nm_level X k_Nm_32 d_Nm_close_40 ?_
      refine V.iconst (v := nI 1) X d_Nm_close_43 (by decide +kernel) ?_
      refine V.isub X d_Nm_close_44 (pk_sub (by first | omega | (dsimp only; omega) | (simp only [] at *; omega))) ?_
      refine p_Nm_level X k_Nm_32 d_Nm_close_45 ?_
      exact V.vret X d_Nm_close_48 rfl rfl
    · rw [show nm_cut N (k + 1) = nm_cut N k from if_pos h22]
      refine V.aload_n X d_Nm_close_25 rfl ?_
      refine V.dup X d_Nm_close_26 rfl ?_
      refine g_Nm_known X k_Nm_28 d_Nm_close_27 ?_
      refine V.iconst (v := nI 1) X d_Nm_close_30 (by decide +kernel) ?_
      refine V.isub X d_Nm_close_31 (pk_sub (by first | omega | (dsimp only; omega) | (simp only [] at *; omega))) ?_
      refine p_Nm_known X k_Nm_28 d_Nm_close_32 ?_
      refine V.goto (tgt := 0) X d_Nm_close_35 (by decide) ?_
      exact ih (by omega)
theorem c_Nm_find_none {l : Launch} {z : Zt} {a u w : Nat → Nat} {P : Pm} {F : Int32} {T : Tk} {N : Nm} {C D : Co} {M : Mc} (h : Nat) {v : Int64} (hk : N.2.2.2.2.2.1 ≤ 18) (hf : nm_find N v = none) : XC l (Gz z) h y_Nm_find b_Nm_find 4 (some .int) [.ref (a 7), .long v] (cw z a u w P F T N C D M) (.inl (some (.int (-1)))) (cw z a u w P F T N C D M) := by
  have q := c_Nm_find (l := l) (z := z) (a := a) (u := u) (w := w) (P := P) (F := F) (T := T) (N := N) (C := C) (D := D) (M := M) h (v := v) hk
  rw [hf] at q
  exact q
theorem c_Nm_find_some {l : Launch} {z : Zt} {a u w : Nat → Nat} {P : Pm} {F : Int32} {T : Tk} {N : Nm} {C D : Co} {M : Mc} (h : Nat) {v : Int64} {i : Nat} (hk : N.2.2.2.2.2.1 ≤ 18) (hf : nm_find N v = some i) : XC l (Gz z) h y_Nm_find b_Nm_find 4 (some .int) [.ref (a 7), .long v] (cw z a u w P F T N C D M) (.inl (some (.int (nI i)))) (cw z a u w P F T N C D M) := by
  have q := c_Nm_find (l := l) (z := z) (a := a) (u := u) (w := w) (P := P) (F := F) (T := T) (N := N) (C := C) (D := D) (M := M) h (v := v) hk
  rw [hf] at q
  exact q
theorem nm_findAt_lt {N : Nm} {v : Int64} {i : Nat} : ∀ {j : Nat}, nm_findAt N v j = some i → i < j ∧ N.1 i = v := by
  intro j
  induction j with
  | zero => intro h; exact absurd h (by simp [nm_findAt])
  | succ j ih =>
    intro h
    unfold nm_findAt at h
    split at h
    · rename_i e
      cases h
      exact ⟨Nat.lt_succ_self _, e⟩
    · have := ih h
      exact ⟨Nat.lt_succ_of_lt this.1, this.2⟩
theorem nm_find_lt {N : Nm} {v : Int64} {i : Nat} (h : nm_find N v = some i) : i < N.2.2.2.2.2.1 ∧ N.1 i = v := nm_findAt_lt h
def nm_twice (N : Nm) (v : Int64) : Bool := match nm_find N v with
  | none => false
  | some i => decide (N.2.2.1 i = N.2.2.2.2.2.2.1)
def nm_add (N : Nm) (v : Int64) (k : Nat) : Nm :=
  if k = 2 then (va_up N.1 N.2.2.2.2.2.1 v, va_up N.2.1 N.2.2.2.2.2.1 k, va_up N.2.2.1 N.2.2.2.2.2.1 N.2.2.2.2.2.2.1, va_up N.2.2.2.1 N.2.2.2.2.2.1 N.2.2.2.2.2.2.2.2, N.2.2.2.2.1, N.2.2.2.2.2.1 + 1, N.2.2.2.2.2.2.1, N.2.2.2.2.2.2.2.1, N.2.2.2.2.2.2.2.2 + 1)
  else (va_up N.1 N.2.2.2.2.2.1 v, va_up N.2.1 N.2.2.2.2.2.1 k, va_up N.2.2.1 N.2.2.2.2.2.1 N.2.2.2.2.2.2.1, va_up N.2.2.2.1 N.2.2.2.2.2.1 (N.2.2.2.2.1 N.2.2.2.2.2.2.1), va_up N.2.2.2.2.1 N.2.2.2.2.2.2.1 (N.2.2.2.2.1 N.2.2.2.2.2.2.1 + 1), N.2.2.2.2.2.1 + 1, N.2.2.2.2.2.2.1, N.2.2.2.2.2.2.2.1 + 1, N.2.2.2.2.2.2.2.2)
def nm_declare (N : Nm) (v : Int64) (k : Nat) : Bool × Nm := if nm_twice N v || nm_full N k then (false, N) else (true, nm_add N v k)
set_option maxHeartbeats 4000000 in
set_option maxRecDepth 100000 in
theorem c_Nm_declare_none {l : Launch} {z : Zt} {a u w : Nat → Nat} {P : Pm} {F : Int32} {T : Tk} {N : Nm} {C D : Co} {M : Mc} (h : Nat) {v : Int64} {k : Nat} (hk2 : k < 2 ^ 31) (hk : N.2.2.2.2.2.1 ≤ N.2.2.2.2.2.2.2.1 + N.2.2.2.2.2.2.2.2) (hv : N.2.2.2.2.2.2.2.1 ≤ 12) (hp : N.2.2.2.2.2.2.2.2 ≤ 6) (hlv : N.2.2.2.2.2.2.1 < 4) (hf : nm_find N v = none) : XC l (Gz z) (h + 1) y_Nm_declare b_Nm_declare 6 (some .boolean) [.ref (a 7), .long v, .int (nI k)] (cw z a u w P F T N C D M) (.inl (some (.int (bI (nm_declare N v k).1)))) (cw z a u w P F T (nm_declare N v k).2 C D M) := by
  refine XC.ofV (by decide +kernel) rfl ?_
  intro p e s m below meth c X hnm
  refine V.lvs (lv' := [(0, .ref (a 7)), (1, .long v), (3, .int (nI k))]) rfl ?_
  refine V.aload_n X d_Nm_declare_0 rfl ?_
  refine V.lload_n X d_Nm_declare_1 rfl ?_
  refine V.callV1 X (c_Nm_find_none h (by omega) hf) Y_Nm_find k_Nm_41 7 rfl rfl rfl rfl rfl (Rok.lt (by omega)) d_Nm_declare_2 ?_
  refine V.istore (lv' := [(0, _), (1, _), (3, _), (4, _)]) X d_Nm_declare_5 (by decide) rfl ?_
  refine V.iload X d_Nm_declare_7 rfl ?_
  refine V.if_lt (tgt := 30) X d_Nm_declare_9 (by decide) (fun _ => ?_) (fun h => absurd (by decide) h)
  refine V.iconst (v := nI 0) X d_Nm_declare_30 (by decide +kernel) ?_
  refine V.istore (lv' := [(0, _), (1, _), (3, _), (4, _), (5, _)]) X d_Nm_declare_31 (by decide) rfl ?_
  refine V.iload X d_Nm_declare_33 rfl ?_
  refine V.ifN_ne (tgt := 46) X d_Nm_declare_35 (by decide) (by first | omega | (dsimp only; omega) | (simp only [] at *; omega)) (fun h35 => absurd h35 (fun q => q rfl)) (fun h35 => ?_)
  refine V.aload_n X d_Nm_declare_38 rfl ?_
  refine V.iload_n X d_Nm_declare_39 rfl ?_
  refine V.callV1 X (c_Nm_isFull h (by omega) (by omega) (by omega)) Y_Nm_isFull k_Nm_45 7 rfl rfl rfl rfl rfl (Rok.lt (by omega)) d_Nm_declare_40 ?_
  refine V.ifB_eq (tgt := 48) X d_Nm_declare_43 (by decide) (fun h43 => ?_) (fun h43 => ?_)
  · have hkn : N.2.2.2.2.2.1 < 18 := by simp only [nm_full] at h43; split at h43 <;> simp at h43 <;> omega
    have hkn2 : N.2.2.2.2.2.1 < 18 := hkn
    have hlv2 : N.2.2.2.2.2.2.1 < 4 := hlv
    rw [show nm_declare N v k = (true, nm_add N v k) from by simp [nm_declare, nm_twice, *]]
    refine V.aload_n X d_Nm_declare_48 rfl ?_
    refine g_Nm_words X k_Nm_9 d_Nm_declare_49 ?_
    refine V.aload_n X d_Nm_declare_52 rfl ?_
    refine g_Nm_known X k_Nm_28 d_Nm_declare_53 ?_
    refine V.lload_n X d_Nm_declare_56 rfl ?_
    refine s_Nm_words X (by first | omega | (dsimp only; omega) | (simp only [] at *; omega)) d_Nm_declare_57 ?_
    refine V.aload_n X d_Nm_declare_58 rfl ?_
    refine g_Nm_kinds X k_Nm_15 d_Nm_declare_59 ?_
    refine V.aload_n X d_Nm_declare_62 rfl ?_
    refine g_Nm_known X k_Nm_28 d_Nm_declare_63 ?_
    refine V.iload_n X d_Nm_declare_66 rfl ?_
    refine s_Nm_kinds X (by first | omega | (dsimp only; omega) | (simp only [] at *; omega)) d_Nm_declare_67 ?_
    refine V.aload_n X d_Nm_declare_68 rfl ?_
    refine g_Nm_levels X k_Nm_19 d_Nm_declare_69 ?_
    refine V.aload_n X d_Nm_declare_72 rfl ?_
    refine g_Nm_known X k_Nm_28 d_Nm_declare_73 ?_
    refine V.aload_n X d_Nm_declare_76 rfl ?_
    refine g_Nm_level X k_Nm_32 d_Nm_declare_77 ?_
    refine s_Nm_levels X (by first | omega | (dsimp only; omega) | (simp only [] at *; omega)) d_Nm_declare_80 ?_
    refine V.aload_n X d_Nm_declare_81 rfl ?_
    refine g_Nm_numbers X k_Nm_22 d_Nm_declare_82 ?_
    refine V.aload_n X d_Nm_declare_85 rfl ?_
    refine g_Nm_known X k_Nm_28 d_Nm_declare_86 ?_
    refine V.iload_n X d_Nm_declare_89 rfl ?_
    refine V.iconst (v := nI 2) X d_Nm_declare_90 (by decide +kernel) ?_
    refine V.cmpN_ne (tgt := 101) X d_Nm_declare_91 (by decide) (by first | omega | (dsimp only; omega) | (simp only [] at *; omega)) (by first | omega | (dsimp only; omega) | (simp only [] at *; omega)) (fun h91 => ?_) (fun h91 => ?_)
    · rw [nm_add, if_neg h91]
      refine V.aload_n X d_Nm_declare_101 rfl ?_
      refine g_Nm_slots X k_Nm_25 d_Nm_declare_102 ?_
      refine V.aload_n X d_Nm_declare_105 rfl ?_
      refine g_Nm_level X k_Nm_32 d_Nm_declare_106 ?_
      refine l_Nm_slots X (by first | omega | (dsimp only; omega) | (simp only [] at *; omega)) d_Nm_declare_109 ?_
      refine s_Nm_numbers X (by first | omega | (dsimp only; omega) | (simp only [] at *; omega)) d_Nm_declare_110 ?_
      refine V.aload_n X d_Nm_declare_111 rfl ?_
      refine V.dup X d_Nm_declare_112 rfl ?_
      refine g_Nm_known X k_Nm_28 d_Nm_declare_113 ?_
      refine V.iconst (v := nI 1) X d_Nm_declare_116 (by decide +kernel) ?_
      refine V.iadd X d_Nm_declare_117 (nI_add _ _) ?_
      refine p_Nm_known X k_Nm_28 d_Nm_declare_118 ?_
      refine V.iload_n X d_Nm_declare_121 rfl ?_
      refine V.iconst (v := nI 2) X d_Nm_declare_122 (by decide +kernel) ?_
      refine V.cmpN_ne (tgt := 139) X d_Nm_declare_123 (by decide) (by first | omega | (dsimp only; omega) | (simp only [] at *; omega)) (by first | omega | (dsimp only; omega) | (simp only [] at *; omega)) (fun h123 => ?_) (fun h123 => absurd h123 (h91))
      refine V.aload_n X d_Nm_declare_139 rfl ?_
      refine V.dup X d_Nm_declare_140 rfl ?_
      refine g_Nm_variables X k_Nm_35 d_Nm_declare_141 ?_
      refine V.iconst (v := nI 1) X d_Nm_declare_144 (by decide +kernel) ?_
      refine V.iadd X d_Nm_declare_145 (nI_add _ _) ?_
      refine p_Nm_variables X k_Nm_35 d_Nm_declare_146 ?_
      refine V.aload_n X d_Nm_declare_149 rfl ?_
      refine g_Nm_slots X k_Nm_25 d_Nm_declare_150 ?_
      refine V.aload_n X d_Nm_declare_153 rfl ?_
      refine g_Nm_level X k_Nm_32 d_Nm_declare_154 ?_
      refine V.dup2 X d_Nm_declare_157 rfl rfl ?_
      refine l_Nm_slots X (by first | omega | (dsimp only; omega) | (simp only [] at *; omega)) d_Nm_declare_158 ?_
      refine V.iconst (v := nI 1) X d_Nm_declare_159 (by decide +kernel) ?_
      refine V.iadd X d_Nm_declare_160 (nI_add _ _) ?_
      refine s_Nm_slots X (by first | omega | (dsimp only; omega) | (simp only [] at *; omega)) d_Nm_declare_161 ?_
      refine V.iconst (v := nI 1) X d_Nm_declare_162 (by decide +kernel) ?_
      exact V.zret X d_Nm_declare_163 (by first | exact Or.inl rfl | exact Or.inr rfl | (unfold bI; split; exact Or.inr rfl; exact Or.inl rfl)) rfl rfl
    · rw [nm_add, if_pos h91]
      refine V.aload_n X d_Nm_declare_94 rfl ?_
      refine g_Nm_procedures X k_Nm_38 d_Nm_declare_95 ?_
      refine V.goto (tgt := 110) X d_Nm_declare_98 (by decide) ?_
      refine s_Nm_numbers X (by first | omega | (dsimp only; omega) | (simp only [] at *; omega)) d_Nm_declare_110 ?_
      refine V.aload_n X d_Nm_declare_111 rfl ?_
      refine V.dup X d_Nm_declare_112 rfl ?_
      refine g_Nm_known X k_Nm_28 d_Nm_declare_113 ?_
      refine V.iconst (v := nI 1) X d_Nm_declare_116 (by decide +kernel) ?_
      refine V.iadd X d_Nm_declare_117 (nI_add _ _) ?_
      refine p_Nm_known X k_Nm_28 d_Nm_declare_118 ?_
      refine V.iload_n X d_Nm_declare_121 rfl ?_
      refine V.iconst (v := nI 2) X d_Nm_declare_122 (by decide +kernel) ?_
      refine V.cmpN_ne (tgt := 139) X d_Nm_declare_123 (by decide) (by first | omega | (dsimp only; omega) | (simp only [] at *; omega)) (by first | omega | (dsimp only; omega) | (simp only [] at *; omega)) (fun h123 => absurd h123 (fun q => q h91)) (fun h123 => ?_)
      refine V.aload_n X d_Nm_declare_126 rfl ?_
      refine V.dup X d_Nm_declare_127 rfl ?_
      refine g_Nm_procedures X k_Nm_38 d_Nm_declare_128 ?_
      refine V.iconst (v := nI 1) X d_Nm_declare_131 (by decide +kernel) ?_
      refine V.iadd X d_Nm_declare_132 (nI_add _ _) ?_
      refine p_Nm_procedures X k_Nm_38 d_Nm_declare_133 ?_
      refine V.goto (tgt := 162) X d_Nm_declare_136 (by decide) ?_
      refine V.iconst (v := nI 1) X d_Nm_declare_162 (by decide +kernel) ?_
      exact V.zret X d_Nm_declare_163 (by first | exact Or.inl rfl | exact Or.inr rfl | (unfold bI; split; exact Or.inr rfl; exact Or.inl rfl)) rfl rfl
  · rw [show nm_declare N v k = (false, N) from by simp [nm_declare, nm_twice, *]]
    refine V.iconst (v := nI 0) X d_Nm_declare_46 (by decide +kernel) ?_
    exact V.zret X d_Nm_declare_47 (by first | exact Or.inl rfl | exact Or.inr rfl | (unfold bI; split; exact Or.inr rfl; exact Or.inl rfl)) rfl rfl
set_option maxHeartbeats 4000000 in
set_option maxRecDepth 100000 in
theorem c_Nm_declare_some {l : Launch} {z : Zt} {a u w : Nat → Nat} {P : Pm} {F : Int32} {T : Tk} {N : Nm} {C D : Co} {M : Mc} (h : Nat) {v : Int64} {k : Nat} (hk2 : k < 2 ^ 31) (hk : N.2.2.2.2.2.1 ≤ N.2.2.2.2.2.2.2.1 + N.2.2.2.2.2.2.2.2) (hv : N.2.2.2.2.2.2.2.1 ≤ 12) (hp : N.2.2.2.2.2.2.2.2 ≤ 6) (hlv : N.2.2.2.2.2.2.1 < 4) (hlb : ∀ i, N.2.2.1 i < 2 ^ 31) {i : Nat} (hf : nm_find N v = some i) : XC l (Gz z) (h + 1) y_Nm_declare b_Nm_declare 6 (some .boolean) [.ref (a 7), .long v, .int (nI k)] (cw z a u w P F T N C D M) (.inl (some (.int (bI (nm_declare N v k).1)))) (cw z a u w P F T (nm_declare N v k).2 C D M) := by
  refine XC.ofV (by decide +kernel) rfl ?_
  intro p e s m below meth c X hnm
  refine V.lvs (lv' := [(0, .ref (a 7)), (1, .long v), (3, .int (nI k))]) rfl ?_
  refine V.aload_n X d_Nm_declare_0 rfl ?_
  refine V.lload_n X d_Nm_declare_1 rfl ?_
  refine V.callV1 X (c_Nm_find_some h (by omega) hf) Y_Nm_find k_Nm_41 7 rfl rfl rfl rfl rfl (Rok.lt (by omega)) d_Nm_declare_2 ?_
  refine V.istore (lv' := [(0, _), (1, _), (3, _), (4, _)]) X d_Nm_declare_5 (by decide) rfl ?_
  refine V.iload X d_Nm_declare_7 rfl ?_
  have hi : i < N.2.2.2.2.2.1 := (nm_find_lt hf).1
  have hln : N.2.2.1 i < 2 ^ 31 := hlb i
  have hll : N.2.2.2.2.2.2.1 < 4 := hlv
  refine V.ifN_lt (tgt := 30) X d_Nm_declare_9 (by decide) (by first | omega | (dsimp only; omega) | (simp only [] at *; omega)) ?_
  refine V.aload_n X d_Nm_declare_12 rfl ?_
  refine g_Nm_levels X k_Nm_19 d_Nm_declare_13 ?_
  refine V.iload X d_Nm_declare_16 rfl ?_
  refine l_Nm_levels X (by first | omega | (dsimp only; omega) | (simp only [] at *; omega)) d_Nm_declare_18 ?_
  refine V.aload_n X d_Nm_declare_19 rfl ?_
  refine g_Nm_level X k_Nm_32 d_Nm_declare_20 ?_
  refine V.cmpN_ne (tgt := 30) X d_Nm_declare_23 (by decide) (by first | omega | (dsimp only; omega) | (simp only [] at *; omega)) (by first | omega | (dsimp only; omega) | (simp only [] at *; omega)) (fun h23 => ?_) (fun h23 => ?_)
  · refine V.iconst (v := nI 0) X d_Nm_declare_30 (by decide +kernel) ?_
    refine V.istore (lv' := [(0, _), (1, _), (3, _), (4, _), (5, _)]) X d_Nm_declare_31 (by decide) rfl ?_
    refine V.iload X d_Nm_declare_33 rfl ?_
    refine V.ifN_ne (tgt := 46) X d_Nm_declare_35 (by decide) (by first | omega | (dsimp only; omega) | (simp only [] at *; omega)) (fun h35 => absurd h35 (fun q => q rfl)) (fun h35 => ?_)
    refine V.aload_n X d_Nm_declare_38 rfl ?_
    refine V.iload_n X d_Nm_declare_39 rfl ?_
    refine V.callV1 X (c_Nm_isFull h (by omega) (by omega) (by omega)) Y_Nm_isFull k_Nm_45 7 rfl rfl rfl rfl rfl (Rok.lt (by omega)) d_Nm_declare_40 ?_
    refine V.ifB_eq (tgt := 48) X d_Nm_declare_43 (by decide) (fun h43 => ?_) (fun h43 => ?_)
    · have hkn : N.2.2.2.2.2.1 < 18 := by simp only [nm_full] at h43; split at h43 <;> simp at h43 <;> omega
      have hkn2 : N.2.2.2.2.2.1 < 18 := hkn
      have hlv2 : N.2.2.2.2.2.2.1 < 4 := hlv
      rw [show nm_declare N v k = (true, nm_add N v k) from by simp [nm_declare, nm_twice, *]]
      refine V.aload_n X d_Nm_declare_48 rfl ?_
      refine g_Nm_words X k_Nm_9 d_Nm_declare_49 ?_
      refine V.aload_n X d_Nm_declare_52 rfl ?_
      refine g_Nm_known X k_Nm_28 d_Nm_declare_53 ?_
      refine V.lload_n X d_Nm_declare_56 rfl ?_
      refine s_Nm_words X (by first | omega | (dsimp only; omega) | (simp only [] at *; omega)) d_Nm_declare_57 ?_
      refine V.aload_n X d_Nm_declare_58 rfl ?_
      refine g_Nm_kinds X k_Nm_15 d_Nm_declare_59 ?_
      refine V.aload_n X d_Nm_declare_62 rfl ?_
      refine g_Nm_known X k_Nm_28 d_Nm_declare_63 ?_
      refine V.iload_n X d_Nm_declare_66 rfl ?_
      refine s_Nm_kinds X (by first | omega | (dsimp only; omega) | (simp only [] at *; omega)) d_Nm_declare_67 ?_
      refine V.aload_n X d_Nm_declare_68 rfl ?_
      refine g_Nm_levels X k_Nm_19 d_Nm_declare_69 ?_
      refine V.aload_n X d_Nm_declare_72 rfl ?_
      refine g_Nm_known X k_Nm_28 d_Nm_declare_73 ?_
      refine V.aload_n X d_Nm_declare_76 rfl ?_
      refine g_Nm_level X k_Nm_32 d_Nm_declare_77 ?_
      refine s_Nm_levels X (by first | omega | (dsimp only; omega) | (simp only [] at *; omega)) d_Nm_declare_80 ?_
      refine V.aload_n X d_Nm_declare_81 rfl ?_
      refine g_Nm_numbers X k_Nm_22 d_Nm_declare_82 ?_
      refine V.aload_n X d_Nm_declare_85 rfl ?_
      refine g_Nm_known X k_Nm_28 d_Nm_declare_86 ?_
      refine V.iload_n X d_Nm_declare_89 rfl ?_
      refine V.iconst (v := nI 2) X d_Nm_declare_90 (by decide +kernel) ?_
      refine V.cmpN_ne (tgt := 101) X d_Nm_declare_91 (by decide) (by first | omega | (dsimp only; omega) | (simp only [] at *; omega)) (by first | omega | (dsimp only; omega) | (simp only [] at *; omega)) (fun h91 => ?_) (fun h91 => ?_)
      · rw [nm_add, if_neg h91]
        refine V.aload_n X d_Nm_declare_101 rfl ?_
        refine g_Nm_slots X k_Nm_25 d_Nm_declare_102 ?_
        refine V.aload_n X d_Nm_declare_105 rfl ?_
        refine g_Nm_level X k_Nm_32 d_Nm_declare_106 ?_
        refine l_Nm_slots X (by first | omega | (dsimp only; omega) | (simp only [] at *; omega)) d_Nm_declare_109 ?_
        refine s_Nm_numbers X (by first | omega | (dsimp only; omega) | (simp only [] at *; omega)) d_Nm_declare_110 ?_
        refine V.aload_n X d_Nm_declare_111 rfl ?_
        refine V.dup X d_Nm_declare_112 rfl ?_
        refine g_Nm_known X k_Nm_28 d_Nm_declare_113 ?_
        refine V.iconst (v := nI 1) X d_Nm_declare_116 (by decide +kernel) ?_
        refine V.iadd X d_Nm_declare_117 (nI_add _ _) ?_
        refine p_Nm_known X k_Nm_28 d_Nm_declare_118 ?_
        refine V.iload_n X d_Nm_declare_121 rfl ?_
        refine V.iconst (v := nI 2) X d_Nm_declare_122 (by decide +kernel) ?_
        refine V.cmpN_ne (tgt := 139) X d_Nm_declare_123 (by decide) (by first | omega | (dsimp only; omega) | (simp only [] at *; omega)) (by first | omega | (dsimp only; omega) | (simp only [] at *; omega)) (fun h123 => ?_) (fun h123 => absurd h123 (h91))
        refine V.aload_n X d_Nm_declare_139 rfl ?_
        refine V.dup X d_Nm_declare_140 rfl ?_
        refine g_Nm_variables X k_Nm_35 d_Nm_declare_141 ?_
        refine V.iconst (v := nI 1) X d_Nm_declare_144 (by decide +kernel) ?_
        refine V.iadd X d_Nm_declare_145 (nI_add _ _) ?_
        refine p_Nm_variables X k_Nm_35 d_Nm_declare_146 ?_
        refine V.aload_n X d_Nm_declare_149 rfl ?_
        refine g_Nm_slots X k_Nm_25 d_Nm_declare_150 ?_
        refine V.aload_n X d_Nm_declare_153 rfl ?_
        refine g_Nm_level X k_Nm_32 d_Nm_declare_154 ?_
        refine V.dup2 X d_Nm_declare_157 rfl rfl ?_
        refine l_Nm_slots X (by first | omega | (dsimp only; omega) | (simp only [] at *; omega)) d_Nm_declare_158 ?_
        refine V.iconst (v := nI 1) X d_Nm_declare_159 (by decide +kernel) ?_
        refine V.iadd X d_Nm_declare_160 (nI_add _ _) ?_
        refine s_Nm_slots X (by first | omega | (dsimp only; omega) | (simp only [] at *; omega)) d_Nm_declare_161 ?_
        refine V.iconst (v := nI 1) X d_Nm_declare_162 (by decide +kernel) ?_
        exact V.zret X d_Nm_declare_163 (by first | exact Or.inl rfl | exact Or.inr rfl | (unfold bI; split; exact Or.inr rfl; exact Or.inl rfl)) rfl rfl
      · rw [nm_add, if_pos h91]
        refine V.aload_n X d_Nm_declare_94 rfl ?_
        refine g_Nm_procedures X k_Nm_38 d_Nm_declare_95 ?_
        refine V.goto (tgt := 110) X d_Nm_declare_98 (by decide) ?_
        refine s_Nm_numbers X (by first | omega | (dsimp only; omega) | (simp only [] at *; omega)) d_Nm_declare_110 ?_
        refine V.aload_n X d_Nm_declare_111 rfl ?_
        refine V.dup X d_Nm_declare_112 rfl ?_
        refine g_Nm_known X k_Nm_28 d_Nm_declare_113 ?_
        refine V.iconst (v := nI 1) X d_Nm_declare_116 (by decide +kernel) ?_
        refine V.iadd X d_Nm_declare_117 (nI_add _ _) ?_
        refine p_Nm_known X k_Nm_28 d_Nm_declare_118 ?_
        refine V.iload_n X d_Nm_declare_121 rfl ?_
        refine V.iconst (v := nI 2) X d_Nm_declare_122 (by decide +kernel) ?_
        refine V.cmpN_ne (tgt := 139) X d_Nm_declare_123 (by decide) (by first | omega | (dsimp only; omega) | (simp only [] at *; omega)) (by first | omega | (dsimp only; omega) | (simp only [] at *; omega)) (fun h123 => absurd h123 (fun q => q h91)) (fun h123 => ?_)
        refine V.aload_n X d_Nm_declare_126 rfl ?_
        refine V.dup X d_Nm_declare_127 rfl ?_
        refine g_Nm_procedures X k_Nm_38 d_Nm_declare_128 ?_
        refine V.iconst (v := nI 1) X d_Nm_declare_131 (by decide +kernel) ?_
        refine V.iadd X d_Nm_declare_132 (nI_add _ _) ?_
        refine p_Nm_procedures X k_Nm_38 d_Nm_declare_133 ?_
        refine V.goto (tgt := 162) X d_Nm_declare_136 (by decide) ?_
        refine V.iconst (v := nI 1) X d_Nm_declare_162 (by decide +kernel) ?_
        exact V.zret X d_Nm_declare_163 (by first | exact Or.inl rfl | exact Or.inr rfl | (unfold bI; split; exact Or.inr rfl; exact Or.inl rfl)) rfl rfl
    · rw [show nm_declare N v k = (false, N) from by simp [nm_declare, nm_twice, *]]
      refine V.iconst (v := nI 0) X d_Nm_declare_46 (by decide +kernel) ?_
      exact V.zret X d_Nm_declare_47 (by first | exact Or.inl rfl | exact Or.inr rfl | (unfold bI; split; exact Or.inr rfl; exact Or.inl rfl)) rfl rfl
  · rw [show nm_declare N v k = (false, N) from by simp [nm_declare, nm_twice, hf]; exact fun q => absurd h23 q]
    refine V.iconst (v := nI 1) X d_Nm_declare_26 (by decide +kernel) ?_
    refine V.goto (tgt := 31) X d_Nm_declare_27 (by decide) ?_
    refine V.istore (lv' := [(0, _), (1, _), (3, _), (4, _), (5, _)]) X d_Nm_declare_31 (by decide) rfl ?_
    refine V.iload X d_Nm_declare_33 rfl ?_
    refine V.ifN_ne (tgt := 46) X d_Nm_declare_35 (by decide) (by first | omega | (dsimp only; omega) | (simp only [] at *; omega)) (fun h35 => ?_) (fun h35 => absurd h35 (by decide))
    refine V.iconst (v := nI 0) X d_Nm_declare_46 (by decide +kernel) ?_
    exact V.zret X d_Nm_declare_47 (by first | exact Or.inl rfl | exact Or.inr rfl | (unfold bI; split; exact Or.inr rfl; exact Or.inl rfl)) rfl rfl
theorem c_Nm_declare {l : Launch} {z : Zt} {a u w : Nat → Nat} {P : Pm} {F : Int32} {T : Tk} {N : Nm} {C D : Co} {M : Mc} (h : Nat) {v : Int64} {k : Nat} (hk2 : k < 2 ^ 31) (hk : N.2.2.2.2.2.1 ≤ N.2.2.2.2.2.2.2.1 + N.2.2.2.2.2.2.2.2) (hv : N.2.2.2.2.2.2.2.1 ≤ 12) (hp : N.2.2.2.2.2.2.2.2 ≤ 6) (hlv : N.2.2.2.2.2.2.1 < 4) (hlb : ∀ i, N.2.2.1 i < 2 ^ 31) : XC l (Gz z) (h + 1) y_Nm_declare b_Nm_declare 6 (some .boolean) [.ref (a 7), .long v, .int (nI k)] (cw z a u w P F T N C D M) (.inl (some (.int (bI (nm_declare N v k).1)))) (cw z a u w P F T (nm_declare N v k).2 C D M) := by
  cases hf : nm_find N v with
  | none => exact c_Nm_declare_none h hk2 hk hv hp hlv hf
  | some i => exact c_Nm_declare_some h hk2 hk hv hp hlv hlb hf
end
section
/-! ===== Code ===== -/
def co_add (C : Co) (x f s : Nat) : Co := if 300 ≤ C.2.2.2.2.2.2.1 then C else (va_up C.1 C.2.2.2.2.2.2.1 x, va_up C.2.1 C.2.2.2.2.2.2.1 f, va_up C.2.2.1 C.2.2.2.2.2.2.1 s, C.2.2.2.1, C.2.2.2.2.1, C.2.2.2.2.2.1, C.2.2.2.2.2.2.1 + 1, C.2.2.2.2.2.2.2)
def co_isRef (C : Co) (x k : Nat) : Bool := decide (k < 3) && decide (C.2.2.2.2.2.1 x / 2 ^ k % 2 = 1)
def co_jump (C : Co) (k : Nat) : Co := if C.2.2.2.2.2.2.1 ≤ k then C else (C.1, va_up C.2.1 k C.2.2.2.2.2.2.1, C.2.2.1, C.2.2.2.1, C.2.2.2.2.1, C.2.2.2.2.2.1, C.2.2.2.2.2.2.1, C.2.2.2.2.2.2.2)
def co_addr (C : Co) (k : Nat) : Co := if C.2.2.2.2.2.2.1 ≤ k then C else (va_up C.1 k (if C.1 k = 3 then 2 else 4), C.2.1, C.2.2.1, C.2.2.2.1, C.2.2.2.2.1, C.2.2.2.2.2.1, C.2.2.2.2.2.2.1, C.2.2.2.2.2.2.2)
theorem shr_small {r k : Nat} (hr : r < 2 ^ 31) (hk : k < 3) : nI r >>> (nI k &&& 31) = nI (r / 2 ^ k) := by
  refine pk_shrN hr _ k ?_
  rcases (show k = 0 ∨ k = 1 ∨ k = 2 by omega) with rfl | rfl | rfl <;> decide +kernel
theorem and_one {x : Nat} (hx : x < 2 ^ 32) : nI x &&& nI 1 = nI (x % 2) := pk_andN hx 1 (by decide +kernel)
set_option maxHeartbeats 4000000 in
set_option maxRecDepth 100000 in
theorem c_Co_add {l : Launch} {z : Zt} {a u w : Nat → Nat} {P : Pm} {F : Int32} {T : Tk} {N : Nm} {C D : Co} {M : Mc} (h : Nat) {x f t : Nat} (hs : C.2.2.2.2.2.2.1 < 2 ^ 31) : XC l (Gz z) (h) y_Co_add b_Co_add 5 (some .int) [.ref (u 0), .int (nI x), .int (nI f), .int (nI t)] (cw z a u w P F T N C D M) (.inl (some (.int (nI C.2.2.2.2.2.2.1)))) (cw z a u w P F T N (co_add C x f t) D M) := by
  refine XC.ofV (by decide +kernel) rfl ?_
  intro p e s m below meth c X hnm
  refine V.lvs (lv' := [(0, .ref (u 0)), (1, .int (nI x)), (2, .int (nI f)), (3, .int (nI t))]) rfl ?_
  refine V.aload_n X d_Co_add_0 rfl ?_
  refine g_Co_size X k_Co_30 d_Co_add_1 ?_
  refine V.istore (lv' := [(0, _), (1, _), (2, _), (3, _), (4, _)]) X d_Co_add_4 (by decide) rfl ?_
  refine V.iload X d_Co_add_6 rfl ?_
  refine V.sipush (v := nI 300) X d_Co_add_8 (by decide +kernel) ?_
  refine V.cmpN_ge (tgt := 48) X d_Co_add_11 (by decide) (by first | omega | (dsimp only; omega) | (simp only [] at *; omega)) (by first | omega | (dsimp only; omega) | (simp only [] at *; omega)) (fun h11 => ?_) (fun h11 => ?_)
  · rw [co_add, if_pos h11]
    refine V.iload X d_Co_add_48 rfl ?_
    exact V.iret X d_Co_add_50 rfl rfl
  · rw [co_add, if_neg (Nat.not_le.mpr h11)]
    refine V.aload_n X d_Co_add_14 rfl ?_
    refine g_Co_operations X k_Co_11 d_Co_add_15 ?_
    refine V.iload X d_Co_add_18 rfl ?_
    refine V.iload_n X d_Co_add_20 rfl ?_
    refine s_Co_operations X (by first | omega | (dsimp only; omega) | (simp only [] at *; omega)) d_Co_add_21 ?_
    refine V.aload_n X d_Co_add_22 rfl ?_
    refine g_Co_firsts X k_Co_15 d_Co_add_23 ?_
    refine V.iload X d_Co_add_26 rfl ?_
    refine V.iload_n X d_Co_add_28 rfl ?_
    refine s_Co_firsts X (by first | omega | (dsimp only; omega) | (simp only [] at *; omega)) d_Co_add_29 ?_
    refine V.aload_n X d_Co_add_30 rfl ?_
    refine g_Co_seconds X k_Co_18 d_Co_add_31 ?_
    refine V.iload X d_Co_add_34 rfl ?_
    refine V.iload_n X d_Co_add_36 rfl ?_
    refine s_Co_seconds X (by first | omega | (dsimp only; omega) | (simp only [] at *; omega)) d_Co_add_37 ?_
    refine V.aload_n X d_Co_add_38 rfl ?_
    refine V.dup X d_Co_add_39 rfl ?_
    refine g_Co_size X k_Co_30 d_Co_add_40 ?_
    refine V.iconst (v := nI 1) X d_Co_add_43 (by decide +kernel) ?_
    refine V.iadd X d_Co_add_44 (nI_add _ _) ?_
    refine p_Co_size X k_Co_30 d_Co_add_45 ?_
    refine V.iload X d_Co_add_48 rfl ?_
    exact V.iret X d_Co_add_50 rfl rfl
set_option maxHeartbeats 4000000 in
set_option maxRecDepth 100000 in
theorem c_Co_isReference {l : Launch} {z : Zt} {a u w : Nat → Nat} {P : Pm} {F : Int32} {T : Tk} {N : Nm} {C D : Co} {M : Mc} (h : Nat) {x k : Nat} (hx : x < 6) (hk : k < 2 ^ 31) (hr : C.2.2.2.2.2.1 x < 2 ^ 31) : XC l (Gz z) (h) y_Co_isReference b_Co_isReference 3 (some .boolean) [.ref (u 0), .int (nI x), .int (nI k)] (cw z a u w P F T N C D M) (.inl (some (.int (bI (co_isRef C x k))))) (cw z a u w P F T N C D M) := by
  refine XC.ofV (by decide +kernel) rfl ?_
  intro p e s m below meth c X hnm
  refine V.lvs (lv' := [(0, .ref (u 0)), (1, .int (nI x)), (2, .int (nI k))]) rfl ?_
  refine V.iload_n X d_Co_isReference_0 rfl ?_
  refine V.iconst (v := nI 3) X d_Co_isReference_1 (by decide +kernel) ?_
  refine V.cmpN_ge (tgt := 23) X d_Co_isReference_2 (by decide) (by first | omega | (dsimp only; omega) | (simp only [] at *; omega)) (by first | omega | (dsimp only; omega) | (simp only [] at *; omega)) (fun h2 => ?_) (fun h2 => ?_)
  · have h2n : ¬ k < 3 := by omega
    refine V.iconst (v := nI 0) X d_Co_isReference_23 (by decide +kernel) ?_
    exact V.zret X d_Co_isReference_24 (by first | exact Or.inl rfl | exact Or.inr rfl | (unfold bI; split; exact Or.inr rfl; exact Or.inl rfl)) (by simp [bI, co_isRef, *]) rfl
  · refine V.aload_n X d_Co_isReference_5 rfl ?_
    refine g_Co_references X k_Co_27 d_Co_isReference_6 ?_
    refine V.iload_n X d_Co_isReference_9 rfl ?_
    refine l_Co_references X (by first | omega | (dsimp only; omega) | (simp only [] at *; omega)) d_Co_isReference_10 ?_
    refine V.iload_n X d_Co_isReference_11 rfl ?_
    refine V.ishr X d_Co_isReference_12 (shr_small hr h2) ?_
    refine V.iconst (v := nI 1) X d_Co_isReference_13 (by decide +kernel) ?_
    refine V.iand X d_Co_isReference_14 (and_one (by have := Nat.div_le_self (C.2.2.2.2.2.1 x) (2 ^ k); omega)) ?_
    refine V.iconst (v := nI 1) X d_Co_isReference_15 (by decide +kernel) ?_
    have hm := Nat.mod_lt (C.2.2.2.2.2.1 x / 2 ^ k) (show 2 > 0 by decide)
    refine V.cmpN_ne (tgt := 23) X d_Co_isReference_16 (by decide) (by first | omega | (dsimp only; omega) | (simp only [] at *; omega)) (by first | omega | (dsimp only; omega) | (simp only [] at *; omega)) (fun h16 => ?_) (fun h16 => ?_)
    · refine V.iconst (v := nI 0) X d_Co_isReference_23 (by decide +kernel) ?_
      exact V.zret X d_Co_isReference_24 (by first | exact Or.inl rfl | exact Or.inr rfl | (unfold bI; split; exact Or.inr rfl; exact Or.inl rfl)) (by simp [bI, co_isRef, *]) rfl
    · refine V.iconst (v := nI 1) X d_Co_isReference_19 (by decide +kernel) ?_
      refine V.goto (tgt := 24) X d_Co_isReference_20 (by decide) ?_
      exact V.zret X d_Co_isReference_24 (by first | exact Or.inl rfl | exact Or.inr rfl | (unfold bI; split; exact Or.inr rfl; exact Or.inl rfl)) (by simp [bI, co_isRef, *]) rfl
set_option maxHeartbeats 4000000 in
set_option maxRecDepth 100000 in
theorem c_Co_jumpToEnd {l : Launch} {z : Zt} {a u w : Nat → Nat} {P : Pm} {F : Int32} {T : Tk} {N : Nm} {C D : Co} {M : Mc} (h : Nat) {k : Nat} (hk : k < 2 ^ 31) (hs : C.2.2.2.2.2.2.1 ≤ 300) : XC l (Gz z) (h) y_Co_jumpToEnd b_Co_jumpToEnd 2 none [.ref (u 0), .int (nI k)] (cw z a u w P F T N C D M) (.inl none) (cw z a u w P F T N (co_jump C k) D M) := by
  refine XC.ofV (by decide +kernel) rfl ?_
  intro p e s m below meth c X hnm
  refine V.lvs (lv' := [(0, .ref (u 0)), (1, .int (nI k))]) rfl ?_
  refine V.iload_n X d_Co_jumpToEnd_0 rfl ?_
  refine V.aload_n X d_Co_jumpToEnd_1 rfl ?_
  refine g_Co_size X k_Co_30 d_Co_jumpToEnd_2 ?_
  refine V.cmpN_ge (tgt := 18) X d_Co_jumpToEnd_5 (by decide) (by first | omega | (dsimp only; omega) | (simp only [] at *; omega)) (by first | omega | (dsimp only; omega) | (simp only [] at *; omega)) (fun h5 => ?_) (fun h5 => ?_)
  · rw [co_jump, if_pos h5]
    exact V.vret X d_Co_jumpToEnd_18 rfl rfl
  · rw [co_jump, if_neg (Nat.not_le.mpr h5)]
    have hk3 : k < 300 := Nat.lt_of_lt_of_le h5 hs
    refine V.aload_n X d_Co_jumpToEnd_8 rfl ?_
    refine g_Co_firsts X k_Co_15 d_Co_jumpToEnd_9 ?_
    refine V.iload_n X d_Co_jumpToEnd_12 rfl ?_
    refine V.aload_n X d_Co_jumpToEnd_13 rfl ?_
    refine g_Co_size X k_Co_30 d_Co_jumpToEnd_14 ?_
    refine s_Co_firsts X (by first | omega | (dsimp only; omega) | (simp only [] at *; omega)) d_Co_jumpToEnd_17 ?_
    exact V.vret X d_Co_jumpToEnd_18 rfl rfl
set_option maxHeartbeats 4000000 in
set_option maxRecDepth 100000 in
theorem c_Co_takeAddress {l : Launch} {z : Zt} {a u w : Nat → Nat} {P : Pm} {F : Int32} {T : Tk} {N : Nm} {C D : Co} {M : Mc} (h : Nat) {k : Nat} (hk : k < 2 ^ 31) (hs : C.2.2.2.2.2.2.1 ≤ 300) (ho : C.1 k < 2 ^ 31) : XC l (Gz z) (h) y_Co_takeAddress b_Co_takeAddress 2 none [.ref (u 0), .int (nI k)] (cw z a u w P F T N C D M) (.inl none) (cw z a u w P F T N (co_addr C k) D M) := by
  refine XC.ofV (by decide +kernel) rfl ?_
  intro p e s m below meth c X hnm
  refine V.lvs (lv' := [(0, .ref (u 0)), (1, .int (nI k))]) rfl ?_
  refine V.iload_n X d_Co_takeAddress_0 rfl ?_
  refine V.aload_n X d_Co_takeAddress_1 rfl ?_
  refine g_Co_size X k_Co_30 d_Co_takeAddress_2 ?_
  refine V.cmpN_ge (tgt := 29) X d_Co_takeAddress_5 (by decide) (by first | omega | (dsimp only; omega) | (simp only [] at *; omega)) (by first | omega | (dsimp only; omega) | (simp only [] at *; omega)) (fun h5 => ?_) (fun h5 => ?_)
  · rw [co_addr, if_pos h5]
    exact V.vret X d_Co_takeAddress_29 rfl rfl
  · rw [co_addr, if_neg (Nat.not_le.mpr h5)]
    have hk3 : k < 300 := Nat.lt_of_lt_of_le h5 hs
    refine V.aload_n X d_Co_takeAddress_8 rfl ?_
    refine g_Co_operations X k_Co_11 d_Co_takeAddress_9 ?_
    refine V.iload_n X d_Co_takeAddress_12 rfl ?_
    refine V.aload_n X d_Co_takeAddress_13 rfl ?_
    refine g_Co_operations X k_Co_11 d_Co_takeAddress_14 ?_
    refine V.iload_n X d_Co_takeAddress_17 rfl ?_
    refine l_Co_operations X (by first | omega | (dsimp only; omega) | (simp only [] at *; omega)) d_Co_takeAddress_18 ?_
    refine V.iconst (v := nI 3) X d_Co_takeAddress_19 (by decide +kernel) ?_
    refine V.cmpN_ne (tgt := 27) X d_Co_takeAddress_20 (by decide) (by first | omega | (dsimp only; omega) | (simp only [] at *; omega)) (by first | omega | (dsimp only; omega) | (simp only [] at *; omega)) (fun h20 => ?_) (fun h20 => ?_)
    · rw [if_neg h20]
      refine V.iconst (v := nI 4) X d_Co_takeAddress_27 (by decide +kernel) ?_
      refine s_Co_operations X (by first | omega | (dsimp only; omega) | (simp only [] at *; omega)) d_Co_takeAddress_28 ?_
      exact V.vret X d_Co_takeAddress_29 rfl rfl
    · rw [if_pos h20]
      refine V.iconst (v := nI 2) X d_Co_takeAddress_23 (by decide +kernel) ?_
      refine V.goto (tgt := 28) X d_Co_takeAddress_24 (by decide) ?_
      refine s_Co_operations X (by first | omega | (dsimp only; omega) | (simp only [] at *; omega)) d_Co_takeAddress_28 ?_
      exact V.vret X d_Co_takeAddress_29 rfl rfl
end
