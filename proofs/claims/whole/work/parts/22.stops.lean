/-! points at which a run stops: calls and returns -/
theorem z_S_of_246 : ct_tab (T_S_of) 246 = none := rfl
theorem z_S_of_248 : ct_tab (T_S_of) 248 = none := rfl
theorem z_S_of_251 : ct_tab (T_S_of) 251 = none := rfl
theorem z_S_of_254 : ct_tab (T_S_of) 254 = none := rfl
theorem z_S_of_256 : ct_tab (T_S_of) 256 = none := rfl
theorem z_S_of_258 : ct_tab (T_S_of) 258 = none := rfl
theorem z_S_of_260 : ct_tab (T_S_of) 260 = none := rfl
theorem z_S_of_262 : ct_tab (T_S_of) 262 = none := rfl
theorem z_S_of_265 : ct_tab (T_S_of) 265 = none := rfl
theorem z_S_of_268 : ct_tab (T_S_of) 268 = none := rfl
theorem z_S_of_270 : ct_tab (T_S_of) 270 = none := rfl
theorem z_S_firstSize_45 : ct_tab (T_S_firstSize) 45 = none := rfl
theorem z_S_firstSize_47 : ct_tab (T_S_firstSize) 47 = none := rfl
theorem z_S_firstSize_50 : ct_tab (T_S_firstSize) 50 = none := rfl
theorem z_S_firstSize_52 : ct_tab (T_S_firstSize) 52 = none := rfl
theorem z_S_secondSize_37 : ct_tab (T_S_secondSize) 37 = none := rfl
theorem z_S_secondSize_40 : ct_tab (T_S_secondSize) 40 = none := rfl
theorem z_S_secondSize_42 : ct_tab (T_S_secondSize) 42 = none := rfl
theorem z_T_init_91 : ct_tab (T_T_init) 91 = none := rfl
theorem z_T_allStructures_13 : ct_tab (T_T_allStructures) 13 = none := rfl
theorem z_T_allFunctions_13 : ct_tab (T_T_allFunctions) 13 = none := rfl
theorem z_T_structureFact_6 : ct_tab (T_T_structureFact) 6 = none := rfl
theorem z_T_structureFact_22 : ct_tab (T_T_structureFact) 22 = none := rfl
theorem z_T_structureFact_33 : ct_tab (T_T_structureFact) 33 = none := rfl
theorem z_T_fieldType_8 : ct_tab (T_T_fieldType) 8 = none := rfl
theorem z_T_fieldType_29 : ct_tab (T_T_fieldType) 29 = none := rfl
theorem z_T_functionFact_6 : ct_tab (T_T_functionFact) 6 = none := rfl
theorem z_T_functionFact_23 : ct_tab (T_T_functionFact) 23 = none := rfl
theorem z_T_functionFact_30 : ct_tab (T_T_functionFact) 30 = none := rfl
theorem z_T_functionFact_39 : ct_tab (T_T_functionFact) 39 = none := rfl
theorem z_T_listedType_19 : ct_tab (T_T_listedType) 19 = none := rfl
theorem z_T_listedType_26 : ct_tab (T_T_listedType) 26 = none := rfl
theorem z_T_listedType_33 : ct_tab (T_T_listedType) 33 = none := rfl
theorem z_T_listedType_37 : ct_tab (T_T_listedType) 37 = none := rfl
theorem z_T_listedType_43 : ct_tab (T_T_listedType) 43 = none := rfl
theorem z_T_instructionAt_22 : ct_tab (T_T_instructionAt) 22 = none := rfl
theorem z_T_instructionAt_29 : ct_tab (T_T_instructionAt) 29 = none := rfl
theorem z_T_instructionAt_38 : ct_tab (T_T_instructionAt) 38 = none := rfl
theorem z_T_slotOf_25 : ct_tab (T_T_slotOf) 25 = none := rfl
theorem z_T_listStart_9 : ct_tab (T_T_listStart) 9 = none := rfl
theorem z_R_init_57 : ct_tab (T_R_init) 57 = none := rfl
theorem z_R_begin_20 : ct_tab (T_R_begin) 20 = none := rfl
theorem z_R_walk_7 : ct_tab (T_R_walk) 7 = none := rfl
theorem z_R_walk_19 : ct_tab (T_R_walk) 19 = none := rfl
theorem z_R_walk_32 : ct_tab (T_R_walk) 32 = none := rfl
theorem z_R_walk_38 : ct_tab (T_R_walk) 38 = none := rfl
theorem z_R_walk_42 : ct_tab (T_R_walk) 42 = none := rfl
theorem z_R_walk_46 : ct_tab (T_R_walk) 46 = none := rfl
theorem z_R_walk_50 : ct_tab (T_R_walk) 50 = none := rfl
theorem z_R_walk_54 : ct_tab (T_R_walk) 54 = none := rfl
theorem z_R_walk_75 : ct_tab (T_R_walk) 75 = none := rfl
theorem z_R_walk_78 : ct_tab (T_R_walk) 78 = none := rfl
theorem z_R_readMark_17 : ct_tab (T_R_readMark) 17 = none := rfl
theorem z_R_readMark_33 : ct_tab (T_R_readMark) 33 = none := rfl
theorem z_R_readMark_42 : ct_tab (T_R_readMark) 42 = none := rfl
theorem z_R_readStructures_5 : ct_tab (T_R_readStructures) 5 = none := rfl
theorem z_R_readStructures_62 : ct_tab (T_R_readStructures) 62 = none := rfl
theorem z_R_readStructures_92 : ct_tab (T_R_readStructures) 92 = none := rfl
theorem z_R_readStructures_126 : ct_tab (T_R_readStructures) 126 = none := rfl
theorem z_R_readForeignStructures_5 : ct_tab (T_R_readForeignStructures) 5 = none := rfl
theorem z_R_readForeignStructures_59 : ct_tab (T_R_readForeignStructures) 59 = none := rfl
theorem z_R_readForeignStructures_76 : ct_tab (T_R_readForeignStructures) 76 = none := rfl
theorem z_R_readForeignStructures_96 : ct_tab (T_R_readForeignStructures) 96 = none := rfl
theorem z_R_readForeignStructures_118 : ct_tab (T_R_readForeignStructures) 118 = none := rfl
theorem z_R_readForeignFunctions_5 : ct_tab (T_R_readForeignFunctions) 5 = none := rfl
theorem z_R_readForeignFunctions_57 : ct_tab (T_R_readForeignFunctions) 57 = none := rfl
theorem z_R_readForeignFunctions_76 : ct_tab (T_R_readForeignFunctions) 76 = none := rfl
theorem z_R_readForeignFunctions_83 : ct_tab (T_R_readForeignFunctions) 83 = none := rfl
theorem z_R_readForeignFunctions_118 : ct_tab (T_R_readForeignFunctions) 118 = none := rfl
theorem z_R_readElements_21 : ct_tab (T_R_readElements) 21 = none := rfl
theorem z_R_readElements_25 : ct_tab (T_R_readElements) 25 = none := rfl
theorem z_R_readFunctions_5 : ct_tab (T_R_readFunctions) 5 = none := rfl
theorem z_R_readFunctions_76 : ct_tab (T_R_readFunctions) 76 = none := rfl
theorem z_R_readFunctions_99 : ct_tab (T_R_readFunctions) 99 = none := rfl
theorem z_R_readFunctions_106 : ct_tab (T_R_readFunctions) 106 = none := rfl
theorem z_R_readFunctions_112 : ct_tab (T_R_readFunctions) 112 = none := rfl
theorem z_R_readFunctions_121 : ct_tab (T_R_readFunctions) 121 = none := rfl
theorem z_R_readFlagsAndLists_20 : ct_tab (T_R_readFlagsAndLists) 20 = none := rfl
theorem z_R_readFlagsAndLists_44 : ct_tab (T_R_readFlagsAndLists) 44 = none := rfl
theorem z_R_readFlagsAndLists_51 : ct_tab (T_R_readFlagsAndLists) 51 = none := rfl
theorem z_R_readFlagsAndLists_75 : ct_tab (T_R_readFlagsAndLists) 75 = none := rfl
theorem z_R_readFlagsAndLists_82 : ct_tab (T_R_readFlagsAndLists) 82 = none := rfl
theorem z_R_readFlagsAndLists_86 : ct_tab (T_R_readFlagsAndLists) 86 = none := rfl
set_option maxRecDepth 100000 in
theorem z_R_readCode_57 : ct_tab (T_R_readCode) 57 = none := rfl
set_option maxRecDepth 100000 in
theorem z_R_readCode_60 : ct_tab (T_R_readCode) 60 = none := rfl
set_option maxRecDepth 100000 in
theorem z_R_readCode_126 : ct_tab (T_R_readCode) 126 = none := rfl
set_option maxRecDepth 100000 in
theorem z_R_readCode_133 : ct_tab (T_R_readCode) 133 = none := rfl
set_option maxRecDepth 100000 in
theorem z_R_readCode_166 : ct_tab (T_R_readCode) 166 = none := rfl
set_option maxRecDepth 100000 in
theorem z_R_readCode_193 : ct_tab (T_R_readCode) 193 = none := rfl
set_option maxRecDepth 100000 in
theorem z_R_readCode_203 : ct_tab (T_R_readCode) 203 = none := rfl
theorem z_R_takeOperation_7 : ct_tab (T_R_takeOperation) 7 = none := rfl
theorem z_R_takeOperation_21 : ct_tab (T_R_takeOperation) 21 = none := rfl
theorem z_R_takeOperation_25 : ct_tab (T_R_takeOperation) 25 = none := rfl
theorem z_R_takeOperation_27 : ct_tab (T_R_takeOperation) 27 = none := rfl
theorem z_R_takeFirstOperand_49 : ct_tab (T_R_takeFirstOperand) 49 = none := rfl
theorem z_R_takeFirstOperand_53 : ct_tab (T_R_takeFirstOperand) 53 = none := rfl
theorem z_R_takeFirstOperand_55 : ct_tab (T_R_takeFirstOperand) 55 = none := rfl
theorem z_R_takeFirstOperand_59 : ct_tab (T_R_takeFirstOperand) 59 = none := rfl
theorem z_R_takeFirstOperand_66 : ct_tab (T_R_takeFirstOperand) 66 = none := rfl
theorem z_R_takeFirstOperand_71 : ct_tab (T_R_takeFirstOperand) 71 = none := rfl
theorem z_R_takeFirstOperand_75 : ct_tab (T_R_takeFirstOperand) 75 = none := rfl
theorem z_R_takeFirstOperand_89 : ct_tab (T_R_takeFirstOperand) 89 = none := rfl
theorem z_R_takeFirstOperand_93 : ct_tab (T_R_takeFirstOperand) 93 = none := rfl
theorem z_R_takeFirstOperand_99 : ct_tab (T_R_takeFirstOperand) 99 = none := rfl
theorem z_R_takeFirstOperand_103 : ct_tab (T_R_takeFirstOperand) 103 = none := rfl
theorem z_R_takeFirstOperand_106 : ct_tab (T_R_takeFirstOperand) 106 = none := rfl
theorem z_R_takeFirstOperand_109 : ct_tab (T_R_takeFirstOperand) 109 = none := rfl
theorem z_R_takeFirstOperand_112 : ct_tab (T_R_takeFirstOperand) 112 = none := rfl
theorem z_R_takeSecondOperand_36 : ct_tab (T_R_takeSecondOperand) 36 = none := rfl
theorem z_R_takeSecondOperand_41 : ct_tab (T_R_takeSecondOperand) 41 = none := rfl
theorem z_R_takeSecondOperand_45 : ct_tab (T_R_takeSecondOperand) 45 = none := rfl
theorem z_R_takeSecondOperand_51 : ct_tab (T_R_takeSecondOperand) 51 = none := rfl
theorem z_R_takeSecondOperand_55 : ct_tab (T_R_takeSecondOperand) 55 = none := rfl
theorem z_R_takeSecondOperand_58 : ct_tab (T_R_takeSecondOperand) 58 = none := rfl
theorem z_R_takeSecondOperand_61 : ct_tab (T_R_takeSecondOperand) 61 = none := rfl
theorem z_R_takeSecondOperand_64 : ct_tab (T_R_takeSecondOperand) 64 = none := rfl
theorem z_R_takeOwnStructure_7 : ct_tab (T_R_takeOwnStructure) 7 = none := rfl
theorem z_R_takeOwnStructure_38 : ct_tab (T_R_takeOwnStructure) 38 = none := rfl
theorem z_R_takeOwnStructure_52 : ct_tab (T_R_takeOwnStructure) 52 = none := rfl
theorem z_R_takeOwnStructure_56 : ct_tab (T_R_takeOwnStructure) 56 = none := rfl
theorem z_R_takeTypes_5 : ct_tab (T_R_takeTypes) 5 = none := rfl
theorem z_R_takeTypes_35 : ct_tab (T_R_takeTypes) 35 = none := rfl
theorem z_R_takeTypes_47 : ct_tab (T_R_takeTypes) 47 = none := rfl
theorem z_R_takeType_7 : ct_tab (T_R_takeType) 7 = none := rfl
theorem z_R_takeType_16 : ct_tab (T_R_takeType) 16 = none := rfl
theorem z_R_takeType_26 : ct_tab (T_R_takeType) 26 = none := rfl
theorem z_R_takeType_40 : ct_tab (T_R_takeType) 40 = none := rfl
theorem z_R_takeType_54 : ct_tab (T_R_takeType) 54 = none := rfl
theorem z_R_takeType_73 : ct_tab (T_R_takeType) 73 = none := rfl
theorem z_R_takeType_98 : ct_tab (T_R_takeType) 98 = none := rfl
theorem z_R_takeType_119 : ct_tab (T_R_takeType) 119 = none := rfl
theorem z_R_takeType_128 : ct_tab (T_R_takeType) 128 = none := rfl
theorem z_R_takeType_146 : ct_tab (T_R_takeType) 146 = none := rfl
theorem z_R_takeType_159 : ct_tab (T_R_takeType) 159 = none := rfl
theorem z_R_takeType_169 : ct_tab (T_R_takeType) 169 = none := rfl
theorem z_R_takeName_8 : ct_tab (T_R_takeName) 8 = none := rfl
theorem z_R_takeName_31 : ct_tab (T_R_takeName) 31 = none := rfl
theorem z_R_takeName_36 : ct_tab (T_R_takeName) 36 = none := rfl
theorem z_R_takeWithin_8 : ct_tab (T_R_takeWithin) 8 = none := rfl
theorem z_R_takeWithin_30 : ct_tab (T_R_takeWithin) 30 = none := rfl
theorem z_R_takeWithin_34 : ct_tab (T_R_takeWithin) 34 = none := rfl
theorem z_R_takeWithin_37 : ct_tab (T_R_takeWithin) 37 = none := rfl
theorem z_R_take_41 : ct_tab (T_R_take) 41 = none := rfl
theorem z_R_take_93 : ct_tab (T_R_take) 93 = none := rfl
theorem z_R_nextByte_35 : ct_tab (T_R_nextByte) 35 = none := rfl
theorem z_R_fail_17 : ct_tab (T_R_fail) 17 = none := rfl
theorem z_R_findCircle_7 : ct_tab (T_R_findCircle) 7 = none := rfl
theorem z_R_findCircle_33 : ct_tab (T_R_findCircle) 33 = none := rfl
theorem z_R_findCircle_126 : ct_tab (T_R_findCircle) 126 = none := rfl
theorem z_R_findCircle_135 : ct_tab (T_R_findCircle) 135 = none := rfl
theorem z_R_structuresInFields_8 : ct_tab (T_R_structuresInFields) 8 = none := rfl
theorem z_R_structuresInFields_30 : ct_tab (T_R_structuresInFields) 30 = none := rfl
theorem z_R_structuresInFields_80 : ct_tab (T_R_structuresInFields) 80 = none := rfl
theorem z_W_init_23 : ct_tab (T_W_init) 23 = none := rfl
theorem z_W_putModule_23 : ct_tab (T_W_putModule) 23 = none := rfl
theorem z_W_putModule_44 : ct_tab (T_W_putModule) 44 = none := rfl
theorem z_W_putModule_48 : ct_tab (T_W_putModule) 48 = none := rfl
theorem z_W_putModule_52 : ct_tab (T_W_putModule) 52 = none := rfl
theorem z_W_putModule_56 : ct_tab (T_W_putModule) 56 = none := rfl
theorem z_W_putModule_60 : ct_tab (T_W_putModule) 60 = none := rfl
theorem z_W_putModule_64 : ct_tab (T_W_putModule) 64 = none := rfl
theorem z_W_putModule_67 : ct_tab (T_W_putModule) 67 = none := rfl
theorem z_W_putStructures_14 : ct_tab (T_W_putStructures) 14 = none := rfl
theorem z_W_putStructures_30 : ct_tab (T_W_putStructures) 30 = none := rfl
theorem z_W_putStructures_41 : ct_tab (T_W_putStructures) 41 = none := rfl
theorem z_W_putStructures_46 : ct_tab (T_W_putStructures) 46 = none := rfl
theorem z_W_putStructures_53 : ct_tab (T_W_putStructures) 53 = none := rfl
theorem z_W_putStructures_73 : ct_tab (T_W_putStructures) 73 = none := rfl
theorem z_W_putStructures_76 : ct_tab (T_W_putStructures) 76 = none := rfl
theorem z_W_putStructures_91 : ct_tab (T_W_putStructures) 91 = none := rfl
theorem z_W_putForeignStructures_12 : ct_tab (T_W_putForeignStructures) 12 = none := rfl
theorem z_W_putForeignStructures_30 : ct_tab (T_W_putForeignStructures) 30 = none := rfl
theorem z_W_putForeignStructures_43 : ct_tab (T_W_putForeignStructures) 43 = none := rfl
theorem z_W_putForeignStructures_48 : ct_tab (T_W_putForeignStructures) 48 = none := rfl
theorem z_W_putForeignStructures_58 : ct_tab (T_W_putForeignStructures) 58 = none := rfl
theorem z_W_putForeignStructures_63 : ct_tab (T_W_putForeignStructures) 63 = none := rfl
theorem z_W_putForeignStructures_73 : ct_tab (T_W_putForeignStructures) 73 = none := rfl
theorem z_W_putForeignStructures_78 : ct_tab (T_W_putForeignStructures) 78 = none := rfl
theorem z_W_putForeignStructures_87 : ct_tab (T_W_putForeignStructures) 87 = none := rfl
theorem z_W_putForeignFunctions_12 : ct_tab (T_W_putForeignFunctions) 12 = none := rfl
theorem z_W_putForeignFunctions_30 : ct_tab (T_W_putForeignFunctions) 30 = none := rfl
theorem z_W_putForeignFunctions_43 : ct_tab (T_W_putForeignFunctions) 43 = none := rfl
theorem z_W_putForeignFunctions_48 : ct_tab (T_W_putForeignFunctions) 48 = none := rfl
theorem z_W_putForeignFunctions_59 : ct_tab (T_W_putForeignFunctions) 59 = none := rfl
theorem z_W_putForeignFunctions_64 : ct_tab (T_W_putForeignFunctions) 64 = none := rfl
theorem z_W_putForeignFunctions_74 : ct_tab (T_W_putForeignFunctions) 74 = none := rfl
theorem z_W_putForeignFunctions_79 : ct_tab (T_W_putForeignFunctions) 79 = none := rfl
theorem z_W_putForeignFunctions_85 : ct_tab (T_W_putForeignFunctions) 85 = none := rfl
theorem z_W_putForeignFunctions_91 : ct_tab (T_W_putForeignFunctions) 91 = none := rfl
theorem z_W_putForeignFunctions_100 : ct_tab (T_W_putForeignFunctions) 100 = none := rfl
theorem z_W_putElements_14 : ct_tab (T_W_putElements) 14 = none := rfl
theorem z_W_putElements_34 : ct_tab (T_W_putElements) 34 = none := rfl
theorem z_W_putElements_43 : ct_tab (T_W_putElements) 43 = none := rfl
theorem z_W_putFunctions_14 : ct_tab (T_W_putFunctions) 14 = none := rfl
theorem z_W_putFunctions_31 : ct_tab (T_W_putFunctions) 31 = none := rfl
theorem z_W_putFunctions_36 : ct_tab (T_W_putFunctions) 36 = none := rfl
theorem z_W_putFunctions_49 : ct_tab (T_W_putFunctions) 49 = none := rfl
theorem z_W_putFunctions_60 : ct_tab (T_W_putFunctions) 60 = none := rfl
theorem z_W_putFunctions_69 : ct_tab (T_W_putFunctions) 69 = none := rfl
theorem z_W_putList_8 : ct_tab (T_W_putList) 8 = none := rfl
theorem z_W_putList_16 : ct_tab (T_W_putList) 16 = none := rfl
theorem z_W_putList_37 : ct_tab (T_W_putList) 37 = none := rfl
theorem z_W_putList_40 : ct_tab (T_W_putList) 40 = none := rfl
theorem z_W_putList_49 : ct_tab (T_W_putList) 49 = none := rfl
theorem z_W_putCode_6 : ct_tab (T_W_putCode) 6 = none := rfl
theorem z_W_putCode_14 : ct_tab (T_W_putCode) 14 = none := rfl
theorem z_W_putCode_51 : ct_tab (T_W_putCode) 51 = none := rfl
theorem z_W_putCode_61 : ct_tab (T_W_putCode) 61 = none := rfl
theorem z_W_putCode_77 : ct_tab (T_W_putCode) 77 = none := rfl
theorem z_W_putCode_80 : ct_tab (T_W_putCode) 80 = none := rfl
theorem z_W_putCode_96 : ct_tab (T_W_putCode) 96 = none := rfl
theorem z_W_putCode_99 : ct_tab (T_W_putCode) 99 = none := rfl
theorem z_W_putCode_108 : ct_tab (T_W_putCode) 108 = none := rfl
theorem z_W_putType_28 : ct_tab (T_W_putType) 28 = none := rfl
theorem z_W_putType_31 : ct_tab (T_W_putType) 31 = none := rfl
theorem z_W_put_11 : ct_tab (T_W_put) 11 = none := rfl
theorem z_W_put_27 : ct_tab (T_W_put) 27 = none := rfl
theorem z_W_put_40 : ct_tab (T_W_put) 40 = none := rfl
theorem z_X_init_33 : ct_tab (T_X_init) 33 = none := rfl
theorem z_X_init_48 : ct_tab (T_X_init) 48 = none := rfl
theorem z_X_init_63 : ct_tab (T_X_init) 63 = none := rfl
theorem z_X_init_69 : ct_tab (T_X_init) 69 = none := rfl
theorem z_X_type_12 : ct_tab (T_X_type) 12 = none := rfl
theorem z_X_type_26 : ct_tab (T_X_type) 26 = none := rfl
theorem z_X_type_38 : ct_tab (T_X_type) 38 = none := rfl
theorem z_X_type_54 : ct_tab (T_X_type) 54 = none := rfl
theorem z_X_type_71 : ct_tab (T_X_type) 71 = none := rfl
theorem z_X_read_12 : ct_tab (T_X_read) 12 = none := rfl
theorem z_X_read_20 : ct_tab (T_X_read) 20 = none := rfl
theorem z_X_read_28 : ct_tab (T_X_read) 28 = none := rfl
theorem z_X_read_35 : ct_tab (T_X_read) 35 = none := rfl
theorem z_X_read_81 : ct_tab (T_X_read) 81 = none := rfl
theorem z_X_place_4 : ct_tab (T_X_place) 4 = none := rfl
theorem z_X_told_30 : ct_tab (T_X_told) 30 = none := rfl
theorem z_X_structure_13 : ct_tab (T_X_structure) 13 = none := rfl
theorem z_X_structure_20 : ct_tab (T_X_structure) 20 = none := rfl
theorem z_X_field_13 : ct_tab (T_X_field) 13 = none := rfl
theorem z_X_field_20 : ct_tab (T_X_field) 20 = none := rfl
theorem z_X_function_13 : ct_tab (T_X_function) 13 = none := rfl
theorem z_X_function_20 : ct_tab (T_X_function) 20 = none := rfl
theorem z_X_listed_14 : ct_tab (T_X_listed) 14 = none := rfl
theorem z_X_listed_21 : ct_tab (T_X_listed) 21 = none := rfl
theorem z_X_element_37 : ct_tab (T_X_element) 37 = none := rfl
theorem z_X_operation_13 : ct_tab (T_X_operation) 13 = none := rfl
theorem z_X_operation_38 : ct_tab (T_X_operation) 38 = none := rfl
theorem z_X_operand_13 : ct_tab (T_X_operand) 13 = none := rfl
theorem z_X_operand_37 : ct_tab (T_X_operand) 37 = none := rfl
theorem z_X_operand_65 : ct_tab (T_X_operand) 65 = none := rfl
theorem z_X_write_8 : ct_tab (T_X_write) 8 = none := rfl
theorem z_X_write_13 : ct_tab (T_X_write) 13 = none := rfl
theorem z_X_write_23 : ct_tab (T_X_write) 23 = none := rfl
theorem z_X_written_32 : ct_tab (T_X_written) 32 = none := rfl
theorem z_X_withRoom_13 : ct_tab (T_X_withRoom) 13 = none := rfl
theorem z_X_withRoom_16 : ct_tab (T_X_withRoom) 16 = none := rfl
theorem z_X_putBytes_36 : ct_tab (T_X_putBytes) 36 = none := rfl
theorem z_M_init_85 : ct_tab (T_M_init) 85 = none := rfl
theorem z_M_type_12 : ct_tab (T_M_type) 12 = none := rfl
theorem z_M_type_26 : ct_tab (T_M_type) 26 = none := rfl
theorem z_M_type_75 : ct_tab (T_M_type) 75 = none := rfl
theorem z_M_fail_7 : ct_tab (T_M_fail) 7 = none := rfl
theorem z_M_fail_18 : ct_tab (T_M_fail) 18 = none := rfl
theorem z_M_isGood_12 : ct_tab (T_M_isGood) 12 = none := rfl
theorem z_M_byteAt_22 : ct_tab (T_M_byteAt) 22 = none := rfl
theorem z_M_shortAt_5 : ct_tab (T_M_shortAt) 5 = none := rfl
theorem z_M_shortAt_13 : ct_tab (T_M_shortAt) 13 = none := rfl
theorem z_M_shortAt_17 : ct_tab (T_M_shortAt) 17 = none := rfl
theorem z_M_over_24 : ct_tab (T_M_over) 24 = none := rfl
theorem z_M_over_41 : ct_tab (T_M_over) 41 = none := rfl
theorem z_M_count_2 : ct_tab (T_M_count) 2 = none := rfl
theorem z_M_count_7 : ct_tab (T_M_count) 7 = none := rfl
theorem z_M_count_15 : ct_tab (T_M_count) 15 = none := rfl
theorem z_M_count_24 : ct_tab (T_M_count) 24 = none := rfl
theorem z_M_count_34 : ct_tab (T_M_count) 34 = none := rfl
theorem z_M_count_38 : ct_tab (T_M_count) 38 = none := rfl
theorem z_M_count_46 : ct_tab (T_M_count) 46 = none := rfl
theorem z_M_count_53 : ct_tab (T_M_count) 53 = none := rfl
theorem z_M_overType_2 : ct_tab (T_M_overType) 2 = none := rfl
theorem z_M_overType_7 : ct_tab (T_M_overType) 7 = none := rfl
theorem z_M_overType_13 : ct_tab (T_M_overType) 13 = none := rfl
theorem z_M_overType_20 : ct_tab (T_M_overType) 20 = none := rfl
theorem z_M_overType_30 : ct_tab (T_M_overType) 30 = none := rfl
theorem z_M_overType_40 : ct_tab (T_M_overType) 40 = none := rfl
theorem z_M_overType_47 : ct_tab (T_M_overType) 47 = none := rfl
theorem z_M_overType_55 : ct_tab (T_M_overType) 55 = none := rfl
theorem z_M_overType_73 : ct_tab (T_M_overType) 73 = none := rfl
theorem z_M_overType_81 : ct_tab (T_M_overType) 81 = none := rfl
theorem z_M_overType_87 : ct_tab (T_M_overType) 87 = none := rfl
theorem z_M_overType_90 : ct_tab (T_M_overType) 90 = none := rfl
theorem z_M_overType_111 : ct_tab (T_M_overType) 111 = none := rfl
theorem z_M_overType_126 : ct_tab (T_M_overType) 126 = none := rfl
theorem z_M_overType_130 : ct_tab (T_M_overType) 130 = none := rfl
theorem z_M_overList_3 : ct_tab (T_M_overList) 3 = none := rfl
theorem z_M_overList_17 : ct_tab (T_M_overList) 17 = none := rfl
theorem z_M_overList_25 : ct_tab (T_M_overList) 25 = none := rfl
theorem z_M_overList_34 : ct_tab (T_M_overList) 34 = none := rfl
theorem z_M_operandBytes_54 : ct_tab (T_M_operandBytes) 54 = none := rfl
theorem z_M_operandBytes_84 : ct_tab (T_M_operandBytes) 84 = none := rfl
theorem z_M_operandBytes_114 : ct_tab (T_M_operandBytes) 114 = none := rfl
theorem z_M_overInstruction_2 : ct_tab (T_M_overInstruction) 2 = none := rfl
theorem z_M_overInstruction_7 : ct_tab (T_M_overInstruction) 7 = none := rfl
theorem z_M_overInstruction_13 : ct_tab (T_M_overInstruction) 13 = none := rfl
theorem z_M_overInstruction_36 : ct_tab (T_M_overInstruction) 36 = none := rfl
theorem z_M_overInstruction_47 : ct_tab (T_M_overInstruction) 47 = none := rfl
theorem z_M_overInstruction_55 : ct_tab (T_M_overInstruction) 55 = none := rfl
theorem z_M_overInstruction_65 : ct_tab (T_M_overInstruction) 65 = none := rfl
theorem z_M_overInstruction_70 : ct_tab (T_M_overInstruction) 70 = none := rfl
theorem z_M_overInstruction_80 : ct_tab (T_M_overInstruction) 80 = none := rfl
theorem z_M_overInstruction_90 : ct_tab (T_M_overInstruction) 90 = none := rfl
theorem z_M_overInstruction_93 : ct_tab (T_M_overInstruction) 93 = none := rfl
theorem z_M_overInstruction_96 : ct_tab (T_M_overInstruction) 96 = none := rfl
theorem z_M_overInstruction_100 : ct_tab (T_M_overInstruction) 100 = none := rfl
theorem z_M_overFunction_24 : ct_tab (T_M_overFunction) 24 = none := rfl
theorem z_M_overFunction_31 : ct_tab (T_M_overFunction) 31 = none := rfl
theorem z_M_overFunction_35 : ct_tab (T_M_overFunction) 35 = none := rfl
theorem z_M_overFunction_41 : ct_tab (T_M_overFunction) 41 = none := rfl
theorem z_M_overFunction_44 : ct_tab (T_M_overFunction) 44 = none := rfl
theorem z_M_overFunction_49 : ct_tab (T_M_overFunction) 49 = none := rfl
theorem z_M_overFunction_55 : ct_tab (T_M_overFunction) 55 = none := rfl
theorem z_M_overFunction_58 : ct_tab (T_M_overFunction) 58 = none := rfl
theorem z_M_overFunction_89 : ct_tab (T_M_overFunction) 89 = none := rfl
theorem z_M_overFunction_102 : ct_tab (T_M_overFunction) 102 = none := rfl
theorem z_M_overFunction_109 : ct_tab (T_M_overFunction) 109 = none := rfl
theorem z_M_overFunction_130 : ct_tab (T_M_overFunction) 130 = none := rfl
theorem z_M_overLists_1 : ct_tab (T_M_overLists) 1 = none := rfl
theorem z_M_overLists_10 : ct_tab (T_M_overLists) 10 = none := rfl
theorem z_M_overLists_14 : ct_tab (T_M_overLists) 14 = none := rfl
theorem z_M_overLists_23 : ct_tab (T_M_overLists) 23 = none := rfl
theorem z_M_overLists_27 : ct_tab (T_M_overLists) 27 = none := rfl
theorem z_M_overLists_37 : ct_tab (T_M_overLists) 37 = none := rfl
theorem z_M_overLists_40 : ct_tab (T_M_overLists) 40 = none := rfl
set_option maxRecDepth 100000 in
theorem z_M_overAll_8 : ct_tab (T_M_overAll) 8 = none := rfl
set_option maxRecDepth 100000 in
theorem z_M_overAll_16 : ct_tab (T_M_overAll) 16 = none := rfl
set_option maxRecDepth 100000 in
theorem z_M_overAll_53 : ct_tab (T_M_overAll) 53 = none := rfl
set_option maxRecDepth 100000 in
theorem z_M_overAll_61 : ct_tab (T_M_overAll) 61 = none := rfl
set_option maxRecDepth 100000 in
theorem z_M_overAll_71 : ct_tab (T_M_overAll) 71 = none := rfl
set_option maxRecDepth 100000 in
theorem z_M_overAll_81 : ct_tab (T_M_overAll) 81 = none := rfl
set_option maxRecDepth 100000 in
theorem z_M_overAll_89 : ct_tab (T_M_overAll) 89 = none := rfl
set_option maxRecDepth 100000 in
theorem z_M_overAll_95 : ct_tab (T_M_overAll) 95 = none := rfl
set_option maxRecDepth 100000 in
theorem z_M_overAll_105 : ct_tab (T_M_overAll) 105 = none := rfl
set_option maxRecDepth 100000 in
theorem z_M_overAll_126 : ct_tab (T_M_overAll) 126 = none := rfl
set_option maxRecDepth 100000 in
theorem z_M_overAll_146 : ct_tab (T_M_overAll) 146 = none := rfl
set_option maxRecDepth 100000 in
theorem z_M_overAll_151 : ct_tab (T_M_overAll) 151 = none := rfl
set_option maxRecDepth 100000 in
theorem z_M_overAll_161 : ct_tab (T_M_overAll) 161 = none := rfl
set_option maxRecDepth 100000 in
theorem z_M_overAll_177 : ct_tab (T_M_overAll) 177 = none := rfl
set_option maxRecDepth 100000 in
theorem z_M_overAll_185 : ct_tab (T_M_overAll) 185 = none := rfl
set_option maxRecDepth 100000 in
theorem z_M_overAll_202 : ct_tab (T_M_overAll) 202 = none := rfl
set_option maxRecDepth 100000 in
theorem z_M_overAll_212 : ct_tab (T_M_overAll) 212 = none := rfl
set_option maxRecDepth 100000 in
theorem z_M_overAll_233 : ct_tab (T_M_overAll) 233 = none := rfl
set_option maxRecDepth 100000 in
theorem z_M_overAll_256 : ct_tab (T_M_overAll) 256 = none := rfl
set_option maxRecDepth 100000 in
theorem z_M_overAll_261 : ct_tab (T_M_overAll) 261 = none := rfl
set_option maxRecDepth 100000 in
theorem z_M_overAll_271 : ct_tab (T_M_overAll) 271 = none := rfl
set_option maxRecDepth 100000 in
theorem z_M_overAll_283 : ct_tab (T_M_overAll) 283 = none := rfl
set_option maxRecDepth 100000 in
theorem z_M_overAll_293 : ct_tab (T_M_overAll) 293 = none := rfl
set_option maxRecDepth 100000 in
theorem z_M_overAll_314 : ct_tab (T_M_overAll) 314 = none := rfl
set_option maxRecDepth 100000 in
theorem z_M_overAll_332 : ct_tab (T_M_overAll) 332 = none := rfl
set_option maxRecDepth 100000 in
theorem z_M_overAll_337 : ct_tab (T_M_overAll) 337 = none := rfl
set_option maxRecDepth 100000 in
theorem z_M_overAll_347 : ct_tab (T_M_overAll) 347 = none := rfl
set_option maxRecDepth 100000 in
theorem z_M_overAll_352 : ct_tab (T_M_overAll) 352 = none := rfl
set_option maxRecDepth 100000 in
theorem z_M_overAll_362 : ct_tab (T_M_overAll) 362 = none := rfl
set_option maxRecDepth 100000 in
theorem z_M_overAll_366 : ct_tab (T_M_overAll) 366 = none := rfl
set_option maxRecDepth 100000 in
theorem z_M_overAll_376 : ct_tab (T_M_overAll) 376 = none := rfl
set_option maxRecDepth 100000 in
theorem z_M_overAll_387 : ct_tab (T_M_overAll) 387 = none := rfl
set_option maxRecDepth 100000 in
theorem z_M_overAll_397 : ct_tab (T_M_overAll) 397 = none := rfl
set_option maxRecDepth 100000 in
theorem z_M_overAll_418 : ct_tab (T_M_overAll) 418 = none := rfl
set_option maxRecDepth 100000 in
theorem z_M_overAll_436 : ct_tab (T_M_overAll) 436 = none := rfl
set_option maxRecDepth 100000 in
theorem z_M_overAll_447 : ct_tab (T_M_overAll) 447 = none := rfl
set_option maxRecDepth 100000 in
theorem z_M_overAll_457 : ct_tab (T_M_overAll) 457 = none := rfl
set_option maxRecDepth 100000 in
theorem z_M_overAll_478 : ct_tab (T_M_overAll) 478 = none := rfl
set_option maxRecDepth 100000 in
theorem z_M_overAll_486 : ct_tab (T_M_overAll) 486 = none := rfl
set_option maxRecDepth 100000 in
theorem z_M_overAll_496 : ct_tab (T_M_overAll) 496 = none := rfl
set_option maxRecDepth 100000 in
theorem z_M_overAll_520 : ct_tab (T_M_overAll) 520 = none := rfl
set_option maxRecDepth 100000 in
theorem z_M_overAll_523 : ct_tab (T_M_overAll) 523 = none := rfl
theorem z_M_typeEnd_4 : ct_tab (T_M_typeEnd) 4 = none := rfl
theorem z_M_typeEnd_20 : ct_tab (T_M_typeEnd) 20 = none := rfl
theorem z_M_typeEnd_37 : ct_tab (T_M_typeEnd) 37 = none := rfl
theorem z_M_lookType_2 : ct_tab (T_M_lookType) 2 = none := rfl
theorem z_M_lookType_8 : ct_tab (T_M_lookType) 8 = none := rfl
theorem z_M_lookType_18 : ct_tab (T_M_lookType) 18 = none := rfl
theorem z_M_lookType_39 : ct_tab (T_M_lookType) 39 = none := rfl
theorem z_M_lookType_43 : ct_tab (T_M_lookType) 43 = none := rfl
theorem z_M_isStructureType_4 : ct_tab (T_M_isStructureType) 4 = none := rfl
theorem z_M_isStructureType_20 : ct_tab (T_M_isStructureType) 20 = none := rfl
theorem z_M_isStructureType_33 : ct_tab (T_M_isStructureType) 33 = none := rfl
theorem z_M_lookList_2 : ct_tab (T_M_lookList) 2 = none := rfl
theorem z_M_lookList_21 : ct_tab (T_M_lookList) 21 = none := rfl
theorem z_M_lookList_32 : ct_tab (T_M_lookList) 32 = none := rfl
theorem z_M_listEnd_2 : ct_tab (T_M_listEnd) 2 = none := rfl
theorem z_M_listEnd_21 : ct_tab (T_M_listEnd) 21 = none := rfl
theorem z_M_listEnd_32 : ct_tab (T_M_listEnd) 32 = none := rfl
theorem z_M_fieldsOf_9 : ct_tab (T_M_fieldsOf) 9 = none := rfl
theorem z_M_fieldsOf_12 : ct_tab (T_M_fieldsOf) 12 = none := rfl
theorem z_M_lookOwn_2 : ct_tab (T_M_lookOwn) 2 = none := rfl
theorem z_M_lookOwn_21 : ct_tab (T_M_lookOwn) 21 = none := rfl
theorem z_M_lookOwn_29 : ct_tab (T_M_lookOwn) 29 = none := rfl
theorem z_M_lookOwn_43 : ct_tab (T_M_lookOwn) 43 = none := rfl
theorem z_M_lookOwn_46 : ct_tab (T_M_lookOwn) 46 = none := rfl
set_option maxRecDepth 100000 in
theorem z_M_lookInstruction_2 : ct_tab (T_M_lookInstruction) 2 = none := rfl
set_option maxRecDepth 100000 in
theorem z_M_lookInstruction_23 : ct_tab (T_M_lookInstruction) 23 = none := rfl
set_option maxRecDepth 100000 in
theorem z_M_lookInstruction_36 : ct_tab (T_M_lookInstruction) 36 = none := rfl
set_option maxRecDepth 100000 in
theorem z_M_lookInstruction_60 : ct_tab (T_M_lookInstruction) 60 = none := rfl
set_option maxRecDepth 100000 in
theorem z_M_lookInstruction_73 : ct_tab (T_M_lookInstruction) 73 = none := rfl
set_option maxRecDepth 100000 in
theorem z_M_lookInstruction_97 : ct_tab (T_M_lookInstruction) 97 = none := rfl
set_option maxRecDepth 100000 in
theorem z_M_lookInstruction_101 : ct_tab (T_M_lookInstruction) 101 = none := rfl
set_option maxRecDepth 100000 in
theorem z_M_lookInstruction_111 : ct_tab (T_M_lookInstruction) 111 = none := rfl
set_option maxRecDepth 100000 in
theorem z_M_lookInstruction_119 : ct_tab (T_M_lookInstruction) 119 = none := rfl
set_option maxRecDepth 100000 in
theorem z_M_lookInstruction_122 : ct_tab (T_M_lookInstruction) 122 = none := rfl
set_option maxRecDepth 100000 in
theorem z_M_lookInstruction_134 : ct_tab (T_M_lookInstruction) 134 = none := rfl
set_option maxRecDepth 100000 in
theorem z_M_lookInstruction_172 : ct_tab (T_M_lookInstruction) 172 = none := rfl
set_option maxRecDepth 100000 in
theorem z_M_lookInstruction_189 : ct_tab (T_M_lookInstruction) 189 = none := rfl
set_option maxRecDepth 100000 in
theorem z_M_lookInstruction_210 : ct_tab (T_M_lookInstruction) 210 = none := rfl
set_option maxRecDepth 100000 in
theorem z_M_lookInstruction_234 : ct_tab (T_M_lookInstruction) 234 = none := rfl
set_option maxRecDepth 100000 in
theorem z_M_lookInstruction_250 : ct_tab (T_M_lookInstruction) 250 = none := rfl
set_option maxRecDepth 100000 in
theorem z_M_lookInstruction_253 : ct_tab (T_M_lookInstruction) 253 = none := rfl
set_option maxRecDepth 100000 in
theorem z_M_lookAll_11 : ct_tab (T_M_lookAll) 11 = none := rfl
set_option maxRecDepth 100000 in
theorem z_M_lookAll_31 : ct_tab (T_M_lookAll) 31 = none := rfl
set_option maxRecDepth 100000 in
theorem z_M_lookAll_39 : ct_tab (T_M_lookAll) 39 = none := rfl
set_option maxRecDepth 100000 in
theorem z_M_lookAll_66 : ct_tab (T_M_lookAll) 66 = none := rfl
set_option maxRecDepth 100000 in
theorem z_M_lookAll_82 : ct_tab (T_M_lookAll) 82 = none := rfl
set_option maxRecDepth 100000 in
theorem z_M_lookAll_85 : ct_tab (T_M_lookAll) 85 = none := rfl
set_option maxRecDepth 100000 in
theorem z_M_lookAll_106 : ct_tab (T_M_lookAll) 106 = none := rfl
set_option maxRecDepth 100000 in
theorem z_M_lookAll_119 : ct_tab (T_M_lookAll) 119 = none := rfl
set_option maxRecDepth 100000 in
theorem z_M_lookAll_140 : ct_tab (T_M_lookAll) 140 = none := rfl
set_option maxRecDepth 100000 in
theorem z_M_lookAll_157 : ct_tab (T_M_lookAll) 157 = none := rfl
set_option maxRecDepth 100000 in
theorem z_M_lookAll_160 : ct_tab (T_M_lookAll) 160 = none := rfl
set_option maxRecDepth 100000 in
theorem z_M_lookAll_163 : ct_tab (T_M_lookAll) 163 = none := rfl
set_option maxRecDepth 100000 in
theorem z_M_lookAll_170 : ct_tab (T_M_lookAll) 170 = none := rfl
set_option maxRecDepth 100000 in
theorem z_M_lookAll_176 : ct_tab (T_M_lookAll) 176 = none := rfl
set_option maxRecDepth 100000 in
theorem z_M_lookAll_201 : ct_tab (T_M_lookAll) 201 = none := rfl
set_option maxRecDepth 100000 in
theorem z_M_lookAll_230 : ct_tab (T_M_lookAll) 230 = none := rfl
set_option maxRecDepth 100000 in
theorem z_M_lookAll_245 : ct_tab (T_M_lookAll) 245 = none := rfl
theorem z_M_listAt_20 : ct_tab (T_M_listAt) 20 = none := rfl
theorem z_M_listAt_31 : ct_tab (T_M_listAt) 31 = none := rfl
theorem z_M_manyIn_4 : ct_tab (T_M_manyIn) 4 = none := rfl
theorem z_M_manyIn_7 : ct_tab (T_M_manyIn) 7 = none := rfl
theorem z_M_manyIn_10 : ct_tab (T_M_manyIn) 10 = none := rfl
theorem z_M_ownIn_3 : ct_tab (T_M_ownIn) 3 = none := rfl
theorem z_M_ownIn_8 : ct_tab (T_M_ownIn) 8 = none := rfl
theorem z_M_ownIn_14 : ct_tab (T_M_ownIn) 14 = none := rfl
theorem z_M_ownIn_33 : ct_tab (T_M_ownIn) 33 = none := rfl
theorem z_M_isRound_25 : ct_tab (T_M_isRound) 25 = none := rfl
theorem z_M_isRound_59 : ct_tab (T_M_isRound) 59 = none := rfl
theorem z_M_isRound_80 : ct_tab (T_M_isRound) 80 = none := rfl
theorem z_M_reach_14 : ct_tab (T_M_reach) 14 = none := rfl
theorem z_M_reach_22 : ct_tab (T_M_reach) 22 = none := rfl
theorem z_M_reach_34 : ct_tab (T_M_reach) 34 = none := rfl
theorem z_M_reach_41 : ct_tab (T_M_reach) 41 = none := rfl
theorem z_M_reach_51 : ct_tab (T_M_reach) 51 = none := rfl
theorem z_M_read_57 : ct_tab (T_M_read) 57 = none := rfl
theorem z_M_read_61 : ct_tab (T_M_read) 61 = none := rfl
theorem z_M_read_68 : ct_tab (T_M_read) 68 = none := rfl
theorem z_M_read_82 : ct_tab (T_M_read) 82 = none := rfl
theorem z_M_read_90 : ct_tab (T_M_read) 90 = none := rfl
theorem z_M_read_105 : ct_tab (T_M_read) 105 = none := rfl
theorem z_M_read_116 : ct_tab (T_M_read) 116 = none := rfl
theorem z_M_read_149 : ct_tab (T_M_read) 149 = none := rfl
theorem z_M_place_4 : ct_tab (T_M_place) 4 = none := rfl
theorem z_M_told_18 : ct_tab (T_M_told) 18 = none := rfl
theorem z_M_told_25 : ct_tab (T_M_told) 25 = none := rfl
theorem z_M_told_95 : ct_tab (T_M_told) 95 = none := rfl
theorem z_M_structure_34 : ct_tab (T_M_structure) 34 = none := rfl
theorem z_M_structure_56 : ct_tab (T_M_structure) 56 = none := rfl
theorem z_M_structure_71 : ct_tab (T_M_structure) 71 = none := rfl
theorem z_M_structure_78 : ct_tab (T_M_structure) 78 = none := rfl
theorem z_M_structure_87 : ct_tab (T_M_structure) 87 = none := rfl
theorem z_M_structure_109 : ct_tab (T_M_structure) 109 = none := rfl
theorem z_M_structure_119 : ct_tab (T_M_structure) 119 = none := rfl
theorem z_M_structure_122 : ct_tab (T_M_structure) 122 = none := rfl
theorem z_M_typeAt_9 : ct_tab (T_M_typeAt) 9 = none := rfl
theorem z_M_typeAt_23 : ct_tab (T_M_typeAt) 23 = none := rfl
theorem z_M_typeAt_36 : ct_tab (T_M_typeAt) 36 = none := rfl
theorem z_M_field_26 : ct_tab (T_M_field) 26 = none := rfl
theorem z_M_field_33 : ct_tab (T_M_field) 33 = none := rfl
theorem z_M_field_54 : ct_tab (T_M_field) 54 = none := rfl
theorem z_M_field_66 : ct_tab (T_M_field) 66 = none := rfl
theorem z_M_field_69 : ct_tab (T_M_field) 69 = none := rfl
theorem z_M_isFunction_29 : ct_tab (T_M_isFunction) 29 = none := rfl
theorem z_M_function_2 : ct_tab (T_M_function) 2 = none := rfl
theorem z_M_function_19 : ct_tab (T_M_function) 19 = none := rfl
theorem z_M_function_48 : ct_tab (T_M_function) 48 = none := rfl
theorem z_M_function_63 : ct_tab (T_M_function) 63 = none := rfl
theorem z_M_function_79 : ct_tab (T_M_function) 79 = none := rfl
theorem z_M_function_82 : ct_tab (T_M_function) 82 = none := rfl
theorem z_M_function_104 : ct_tab (T_M_function) 104 = none := rfl
theorem z_M_function_114 : ct_tab (T_M_function) 114 = none := rfl
theorem z_M_function_117 : ct_tab (T_M_function) 117 = none := rfl
theorem z_M_function_124 : ct_tab (T_M_function) 124 = none := rfl
theorem z_M_function_136 : ct_tab (T_M_function) 136 = none := rfl
theorem z_M_function_152 : ct_tab (T_M_function) 152 = none := rfl
theorem z_M_function_173 : ct_tab (T_M_function) 173 = none := rfl
theorem z_M_listed_2 : ct_tab (T_M_listed) 2 = none := rfl
theorem z_M_listed_31 : ct_tab (T_M_listed) 31 = none := rfl
theorem z_M_listed_43 : ct_tab (T_M_listed) 43 = none := rfl
theorem z_M_listed_83 : ct_tab (T_M_listed) 83 = none := rfl
theorem z_M_listed_96 : ct_tab (T_M_listed) 96 = none := rfl
theorem z_M_listed_103 : ct_tab (T_M_listed) 103 = none := rfl
theorem z_M_listed_119 : ct_tab (T_M_listed) 119 = none := rfl
theorem z_M_listed_133 : ct_tab (T_M_listed) 133 = none := rfl
theorem z_M_listed_136 : ct_tab (T_M_listed) 136 = none := rfl
theorem z_M_element_26 : ct_tab (T_M_element) 26 = none := rfl
theorem z_M_element_33 : ct_tab (T_M_element) 33 = none := rfl
theorem z_M_instruction_69 : ct_tab (T_M_instruction) 69 = none := rfl
theorem z_M_operation_3 : ct_tab (T_M_operation) 3 = none := rfl
theorem z_M_operation_17 : ct_tab (T_M_operation) 17 = none := rfl
theorem z_M_operation_20 : ct_tab (T_M_operation) 20 = none := rfl
theorem z_M_number_21 : ct_tab (T_M_number) 21 = none := rfl
theorem z_M_number_34 : ct_tab (T_M_number) 34 = none := rfl
theorem z_M_operand_3 : ct_tab (T_M_operand) 3 = none := rfl
theorem z_M_operand_23 : ct_tab (T_M_operand) 23 = none := rfl
theorem z_M_operand_27 : ct_tab (T_M_operand) 27 = none := rfl
theorem z_M_operand_34 : ct_tab (T_M_operand) 34 = none := rfl
theorem z_M_operand_90 : ct_tab (T_M_operand) 90 = none := rfl
theorem z_M_operand_97 : ct_tab (T_M_operand) 97 = none := rfl
theorem z_M_operand_114 : ct_tab (T_M_operand) 114 = none := rfl
theorem z_M_operand_117 : ct_tab (T_M_operand) 117 = none := rfl
theorem z_M_write_8 : ct_tab (T_M_write) 8 = none := rfl
theorem z_M_write_49 : ct_tab (T_M_write) 49 = none := rfl
theorem z_M_written_26 : ct_tab (T_M_written) 26 = none := rfl
set_option maxRecDepth 100000 in
theorem z_L_law_4 (l : ct_Lx) : ct_tab (T_L_law l) 4 = none := rfl
set_option maxRecDepth 100000 in
theorem z_L_law_12 (l : ct_Lx) : ct_tab (T_L_law l) 12 = none := rfl
set_option maxRecDepth 100000 in
theorem z_L_law_126 (l : ct_Lx) : ct_tab (T_L_law l) 126 = none := rfl
set_option maxRecDepth 100000 in
theorem z_L_law_155 (l : ct_Lx) : ct_tab (T_L_law l) 155 = none := rfl
set_option maxRecDepth 100000 in
theorem z_L_law_162 (l : ct_Lx) : ct_tab (T_L_law l) 162 = none := rfl
set_option maxRecDepth 100000 in
theorem z_L_law_164 (l : ct_Lx) : ct_tab (T_L_law l) 164 = none := rfl
set_option maxRecDepth 100000 in
theorem z_L_law_168 (l : ct_Lx) : ct_tab (T_L_law l) 168 = none := rfl
set_option maxRecDepth 100000 in
theorem z_L_law_175 (l : ct_Lx) : ct_tab (T_L_law l) 175 = none := rfl
set_option maxRecDepth 100000 in
theorem z_L_law_177 (l : ct_Lx) : ct_tab (T_L_law l) 177 = none := rfl
set_option maxRecDepth 100000 in
theorem z_L_law_181 (l : ct_Lx) : ct_tab (T_L_law l) 181 = none := rfl
set_option maxRecDepth 100000 in
theorem z_L_law_188 (l : ct_Lx) : ct_tab (T_L_law l) 188 = none := rfl
set_option maxRecDepth 100000 in
theorem z_L_law_195 (l : ct_Lx) : ct_tab (T_L_law l) 195 = none := rfl
set_option maxRecDepth 100000 in
theorem z_L_law_204 (l : ct_Lx) : ct_tab (T_L_law l) 204 = none := rfl
set_option maxRecDepth 100000 in
theorem z_L_law_211 (l : ct_Lx) : ct_tab (T_L_law l) 211 = none := rfl
set_option maxRecDepth 100000 in
theorem z_L_law_223 (l : ct_Lx) : ct_tab (T_L_law l) 223 = none := rfl
set_option maxRecDepth 100000 in
theorem z_L_law_237 (l : ct_Lx) : ct_tab (T_L_law l) 237 = none := rfl
set_option maxRecDepth 100000 in
theorem z_L_law_244 (l : ct_Lx) : ct_tab (T_L_law l) 244 = none := rfl
set_option maxRecDepth 100000 in
theorem z_L_law_256 (l : ct_Lx) : ct_tab (T_L_law l) 256 = none := rfl
set_option maxRecDepth 100000 in
theorem z_L_law_270 (l : ct_Lx) : ct_tab (T_L_law l) 270 = none := rfl
set_option maxRecDepth 100000 in
theorem z_L_law_278 (l : ct_Lx) : ct_tab (T_L_law l) 278 = none := rfl
set_option maxRecDepth 100000 in
theorem z_L_law_290 (l : ct_Lx) : ct_tab (T_L_law l) 290 = none := rfl
set_option maxRecDepth 100000 in
theorem z_L_law_304 (l : ct_Lx) : ct_tab (T_L_law l) 304 = none := rfl
set_option maxRecDepth 100000 in
theorem z_L_law_311 (l : ct_Lx) : ct_tab (T_L_law l) 311 = none := rfl
set_option maxRecDepth 100000 in
theorem z_L_law_328 (l : ct_Lx) : ct_tab (T_L_law l) 328 = none := rfl
set_option maxRecDepth 100000 in
theorem z_L_law_347 (l : ct_Lx) : ct_tab (T_L_law l) 347 = none := rfl
set_option maxRecDepth 100000 in
theorem z_L_law_355 (l : ct_Lx) : ct_tab (T_L_law l) 355 = none := rfl
set_option maxRecDepth 100000 in
theorem z_L_law_362 (l : ct_Lx) : ct_tab (T_L_law l) 362 = none := rfl
set_option maxRecDepth 100000 in
theorem z_L_law_371 (l : ct_Lx) : ct_tab (T_L_law l) 371 = none := rfl
set_option maxRecDepth 100000 in
theorem z_L_law_379 (l : ct_Lx) : ct_tab (T_L_law l) 379 = none := rfl
set_option maxRecDepth 100000 in
theorem z_L_law_391 (l : ct_Lx) : ct_tab (T_L_law l) 391 = none := rfl
set_option maxRecDepth 100000 in
theorem z_L_law_405 (l : ct_Lx) : ct_tab (T_L_law l) 405 = none := rfl
set_option maxRecDepth 100000 in
theorem z_L_law_412 (l : ct_Lx) : ct_tab (T_L_law l) 412 = none := rfl
set_option maxRecDepth 100000 in
theorem z_L_law_429 (l : ct_Lx) : ct_tab (T_L_law l) 429 = none := rfl
set_option maxRecDepth 100000 in
theorem z_L_law_448 (l : ct_Lx) : ct_tab (T_L_law l) 448 = none := rfl
set_option maxRecDepth 100000 in
theorem z_L_law_456 (l : ct_Lx) : ct_tab (T_L_law l) 456 = none := rfl
set_option maxRecDepth 100000 in
theorem z_L_law_458 (l : ct_Lx) : ct_tab (T_L_law l) 458 = none := rfl
set_option maxRecDepth 100000 in
theorem z_L_law_462 (l : ct_Lx) : ct_tab (T_L_law l) 462 = none := rfl
set_option maxRecDepth 100000 in
theorem z_L_law_469 (l : ct_Lx) : ct_tab (T_L_law l) 469 = none := rfl
set_option maxRecDepth 100000 in
theorem z_L_law_476 (l : ct_Lx) : ct_tab (T_L_law l) 476 = none := rfl
set_option maxRecDepth 100000 in
theorem z_L_law_485 (l : ct_Lx) : ct_tab (T_L_law l) 485 = none := rfl
set_option maxRecDepth 100000 in
theorem z_L_law_492 (l : ct_Lx) : ct_tab (T_L_law l) 492 = none := rfl
set_option maxRecDepth 100000 in
theorem z_L_law_500 (l : ct_Lx) : ct_tab (T_L_law l) 500 = none := rfl
